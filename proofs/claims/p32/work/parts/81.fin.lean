/-! THE LAW'S ENTRY: both systems made -/
theorem ar_spec {ty : FieldType} {args : Array Value} {s : State} (h : (Cond.arrayClass ty).before args s = true) : ∃ c, ArrOfT s c ty ∧ s.vm.findClass ("[" ++ ty.toString) = some c := by
  obtain ⟨c, k, comp, h1, h2, h3⟩ := Cond.arrayClass_spec h
  exact ⟨c, fun n z => ⟨fun k h => (by cases h), k, h2, comp, h3⟩, h1⟩
theorem ao_spec {t : FieldType} {args : Array Value} {s : State} (h : (Cond.arrayOver (.array t)).before args s = true) : ∃ c, ArrOfT s c (.array t) ∧ s.vm.findClass ("[" ++ (FieldType.array t).toString) = some c := by
  simp only [Cond.before, Cond.holds, Cond.value, beq_iff_eq] at h
  cases hc : s.vm.findClass (FieldType.array t).toString with
  | none => simp [hc] at h
  | some comp =>
    simp only [hc, Option.bind_some, Option.bind_eq_some_iff, Option.map_eq_some_iff] at h
    obtain ⟨c, hi, k, hk, hb⟩ := h
    obtain ⟨hlt, hp, -⟩ := Array.findIdx?_eq_some_iff_getElem.mp hi
    have hkk : s.vm.classes[c] = k := (Array.getElem?_eq_some_iff.mp hk).2
    rw [hkk] at hp
    cases hkind : k.kind with
    | array component ty =>
      rw [hkind] at hb hp
      simp at hb hp
      refine ⟨c, fun n z => ⟨fun k h => (by cases h), k, hk, comp, by rw [hkind, hp, hb.1]⟩, hb.2⟩
    | _ => rw [hkind] at hb; simp at hb
def h00 : HH := fun k j => if k = 18 ∧ (j = 1 ∨ j = 9) then 1 else 0
theorem rr00 : RR h00 := by
  have e : ∀ k j, h00 k j = 0 ∨ h00 k j = 1 := fun k j => by unfold h00; split <;> omega
  exact ⟨fun k j => by rcases e k j with q | q <;> rw [q] <;> decide, fun k _ j => by rcases e k j with q | q <;> rw [q] <;> decide, fun k _ i j _ => by rcases e k j with q | q <;> rw [q] <;> decide⟩
theorem h00_0 {k j : Nat} (hk : k ≠ 18) : h00 k j = 0 := if_neg (fun q => hk q.1)
theorem jp00 : JP h00 (sg0 0) [] := ⟨⟨rfl, rfl, rfl, fun e he => absurd he (Nat.not_lt_zero e), fun f hf => absurd hf (Nat.not_lt_zero f), fun c e _ he => absurd he (Nat.not_lt_zero e)⟩, ⟨Nat.zero_le _, rfl, 0, by decide, rfl, fun k σ' e => by simp at e⟩, rfl, fun i hi => (by rw [h00_0 (by decide)]; decide)⟩
/-- where the fifty cells lie; behind them the script: its cell, its length, its numbers -/
def adr (q0 qz qc qm b L9 : Nat) (xs : Nat → Int32) (r5 : Nat → Nat) (k : Nat) : Nat := if k = 0 then q0 else if k < 47 then r5 (k - 1) else if k = 47 then qz else if k = 48 then qc else if k = 49 then qm else if k = 50 then b else if k = 51 then L9 else (xs (k - 52)).toBitVec.toNat
def ws00 (g : GG) (q0 qz qc qm : Nat) (r5 : Nat → Nat) : va_W := [(q0, .inr (5, [.ref (r5 0), .ref (r5 2), .ref (r5 4), .ref (r5 6), .ref (r5 8), .ref (r5 17), .ref (r5 34), .ref (r5 43), .int 0, .int 0, .int 0])), ((r5 0), .inr (0, [.ref (r5 1)])), ((r5 1), .inl (g.2.1 0, (63, .inl (fun _ => 0)))), ((r5 2), .inr (0, [.ref (r5 3)])), ((r5 3), .inl (g.2.1 0, (63, .inl (fun _ => 0)))), ((r5 4), .inr (3, [.ref (r5 5), .int 0, .int 0, .int 0])), ((r5 5), .inl (g.2.1 0, (90, .inl (fun _ => 0)))), ((r5 6), .inr (4, [.ref (r5 7), .int 0])), ((r5 7), .inl (g.2.1 0, (4, .inl (fun _ => 0)))), ((r5 8), .inr (1, [.ref (r5 9), .ref (r5 16), .int 0, .int 0])), ((r5 9), .inl (g.2.1 4, (6, .inr (.inr (.inr (.inr (fun i => [(r5 10), (r5 11), (r5 12), (r5 13), (r5 14), (r5 15)][i]?))))))), ((r5 10), .inl (g.2.1 1, (6, .inr (.inl (fun _ => 0))))), ((r5 11), .inl (g.2.1 1, (6, .inr (.inl (fun _ => 0))))), ((r5 12), .inl (g.2.1 1, (6, .inr (.inl (fun _ => 0))))), ((r5 13), .inl (g.2.1 1, (6, .inr (.inl (fun _ => 0))))), ((r5 14), .inl (g.2.1 1, (6, .inr (.inl (fun _ => 0))))), ((r5 15), .inl (g.2.1 1, (6, .inr (.inl (fun _ => 0))))), ((r5 16), .inl (g.2.1 1, (4096, .inr (.inl (fun _ => 0))))), ((r5 17), .inr (2, [.ref (r5 18), .long 1, .int 0, .ref (r5 19), .ref (r5 20), .ref (r5 21), .int 0, .ref (r5 27), .ref (r5 33), .long 1])), ((r5 18), .inl (g.2.1 1, (6, .inr (.inl (fun _ => 0))))), ((r5 19), .inl (g.2.1 1, (6, .inr (.inl (fun _ => 0))))), ((r5 20), .inl (g.2.1 1, (6, .inr (.inl (fun _ => 0))))), ((r5 21), .inl (g.2.1 4, (5, .inr (.inr (.inr (.inr (fun i => [(r5 22), (r5 23), (r5 24), (r5 25), (r5 26)][i]?))))))), ((r5 22), .inl (g.2.1 1, (6, .inr (.inl (fun _ => 0))))), ((r5 23), .inl (g.2.1 1, (6, .inr (.inl (fun _ => 0))))), ((r5 24), .inl (g.2.1 1, (6, .inr (.inl (fun _ => 0))))), ((r5 25), .inl (g.2.1 1, (6, .inr (.inl (fun _ => 0))))), ((r5 26), .inl (g.2.1 1, (6, .inr (.inl (fun _ => 0))))), ((r5 27), .inl (g.2.1 4, (5, .inr (.inr (.inr (.inr (fun i => [(r5 28), (r5 29), (r5 30), (r5 31), (r5 32)][i]?))))))), ((r5 28), .inl (g.2.1 1, (6, .inr (.inl (fun _ => 0))))), ((r5 29), .inl (g.2.1 1, (6, .inr (.inl (fun _ => 0))))), ((r5 30), .inl (g.2.1 1, (6, .inr (.inl (fun _ => 0))))), ((r5 31), .inl (g.2.1 1, (6, .inr (.inl (fun _ => 0))))), ((r5 32), .inl (g.2.1 1, (6, .inr (.inl (fun _ => 0))))), ((r5 33), .inl (g.2.1 1, (6, .inr (.inl (fun _ => 0))))), ((r5 34), .inl (g.2.1 3, (8, .inr (.inr (.inr (.inr (fun i => [(r5 35), (r5 36), (r5 37), (r5 38), (r5 39), (r5 40), (r5 41), (r5 42)][i]?))))))), ((r5 35), .inl (g.2.1 0, (63, .inl (fun _ => 0)))), ((r5 36), .inl (g.2.1 0, (63, .inl (fun _ => 0)))), ((r5 37), .inl (g.2.1 0, (63, .inl (fun _ => 0)))), ((r5 38), .inl (g.2.1 0, (63, .inl (fun _ => 0)))), ((r5 39), .inl (g.2.1 0, (63, .inl (fun _ => 0)))), ((r5 40), .inl (g.2.1 0, (63, .inl (fun _ => 0)))), ((r5 41), .inl (g.2.1 0, (63, .inl (fun _ => 0)))), ((r5 42), .inl (g.2.1 0, (63, .inl (fun _ => 0)))), ((r5 43), .inl (g.2.1 3, (2, .inr (.inr (.inr (.inr (fun i => [(r5 44), (r5 45)][i]?))))))), ((r5 44), .inl (g.2.1 0, (63, .inl (fun _ => 0)))), ((r5 45), .inl (g.2.1 0, (63, .inl (fun _ => 0))))] ++ [(qz, .inl (g.2.1 0, (52, .inl (fun _ => 0)))), (qc, .inl (g.2.1 0, (18, .inl (fun _ => 0)))), (qm, .inl (g.2.1 1, (42, .inr (.inl (fun _ => 0)))))]
theorem va_at_sw {D : va_G} {cl : List vw_C} {a n : Nat} {c : ClassId} {f f' : Nat → Option Nat} {H : Heap} (hf : ∀ j, j < n → f j = f' j) (w : va_at D cl (a, .inl (c, n, .inr (.inr (.inr (.inr f))))) H) : va_at D cl (a, .inl (c, n, .inr (.inr (.inr (.inr f'))))) H := by
  have w : H[a]? = some (arrV c n (fun j => va_rf (f j))) := w
  show H[a]? = some (arrV c n (fun j => va_rf (f' j)))
  rw [w, arrV_lt (fun j hj => by rw [hf j hj])]
set_option maxRecDepth 100000 in
set_option maxHeartbeats 8000000 in
theorem ws_cell (g : GG) (q0 qz qc qm b L9 : Nat) (xs : Nat → Int32) (r5 : Nat → Nat) (H : Heap) (hg : g.2.2 = adr q0 qz qc qm b L9 xs r5) : ∀ k, k < 50 → ∃ e, (ws00 g q0 qz qc qm r5)[k]? = some (g.2.2 k, e) ∧ (va_at g.1 vwCl (g.2.2 k, e) H → va_at g.1 vwCl (g.2.2 k, ct g h00 k) H) := by
  obtain ⟨g1, g2, g3⟩ := g
  have hg : g3 = adr q0 qz qc qm b L9 xs r5 := hg
  subst hg
  intro k hk
  rcases (show k = 0 ∨ k = 1 ∨ k = 2 ∨ k = 3 ∨ k = 4 ∨ k = 5 ∨ k = 6 ∨ k = 7 ∨ k = 8 ∨ k = 9 ∨ k = 10 ∨ k = 11 ∨ k = 12 ∨ k = 13 ∨ k = 14 ∨ k = 15 ∨ k = 16 ∨ k = 17 ∨ k = 18 ∨ k = 19 ∨ k = 20 ∨ k = 21 ∨ k = 22 ∨ k = 23 ∨ k = 24 ∨ k = 25 ∨ k = 26 ∨ k = 27 ∨ k = 28 ∨ k = 29 ∨ k = 30 ∨ k = 31 ∨ k = 32 ∨ k = 33 ∨ k = 34 ∨ k = 35 ∨ k = 36 ∨ k = 37 ∨ k = 38 ∨ k = 39 ∨ k = 40 ∨ k = 41 ∨ k = 42 ∨ k = 43 ∨ k = 44 ∨ k = 45 ∨ k = 46 ∨ k = 47 ∨ k = 48 ∨ k = 49 by omega) with rfl | rfl | rfl | rfl | rfl | rfl | rfl | rfl | rfl | rfl | rfl | rfl | rfl | rfl | rfl | rfl | rfl | rfl | rfl | rfl | rfl | rfl | rfl | rfl | rfl | rfl | rfl | rfl | rfl | rfl | rfl | rfl | rfl | rfl | rfl | rfl | rfl | rfl | rfl | rfl | rfl | rfl | rfl | rfl | rfl | rfl | rfl | rfl | rfl | rfl
  · exact ⟨_, rfl, id⟩
  · exact ⟨_, rfl, id⟩
  · exact ⟨_, rfl, id⟩
  · exact ⟨_, rfl, id⟩
  · exact ⟨_, rfl, id⟩
  · exact ⟨_, rfl, id⟩
  · exact ⟨_, rfl, id⟩
  · exact ⟨_, rfl, id⟩
  · exact ⟨_, rfl, id⟩
  · exact ⟨_, rfl, id⟩
  · refine ⟨_, rfl, va_at_sw (fun j hj => ?_)⟩
    rcases (show j = 0 ∨ j = 1 ∨ j = 2 ∨ j = 3 ∨ j = 4 ∨ j = 5 by omega) with rfl | rfl | rfl | rfl | rfl | rfl <;> rfl
  · exact ⟨_, rfl, id⟩
  · exact ⟨_, rfl, id⟩
  · exact ⟨_, rfl, id⟩
  · exact ⟨_, rfl, id⟩
  · exact ⟨_, rfl, id⟩
  · exact ⟨_, rfl, id⟩
  · exact ⟨_, rfl, id⟩
  · exact ⟨_, rfl, id⟩
  · exact ⟨_, rfl, id⟩
  · exact ⟨_, rfl, id⟩
  · exact ⟨_, rfl, id⟩
  · refine ⟨_, rfl, va_at_sw (fun j hj => ?_)⟩
    rcases (show j = 0 ∨ j = 1 ∨ j = 2 ∨ j = 3 ∨ j = 4 by omega) with rfl | rfl | rfl | rfl | rfl <;> rfl
  · exact ⟨_, rfl, id⟩
  · exact ⟨_, rfl, id⟩
  · exact ⟨_, rfl, id⟩
  · exact ⟨_, rfl, id⟩
  · exact ⟨_, rfl, id⟩
  · refine ⟨_, rfl, va_at_sw (fun j hj => ?_)⟩
    rcases (show j = 0 ∨ j = 1 ∨ j = 2 ∨ j = 3 ∨ j = 4 by omega) with rfl | rfl | rfl | rfl | rfl <;> rfl
  · exact ⟨_, rfl, id⟩
  · exact ⟨_, rfl, id⟩
  · exact ⟨_, rfl, id⟩
  · exact ⟨_, rfl, id⟩
  · exact ⟨_, rfl, id⟩
  · exact ⟨_, rfl, id⟩
  · refine ⟨_, rfl, va_at_sw (fun j hj => ?_)⟩
    rcases (show j = 0 ∨ j = 1 ∨ j = 2 ∨ j = 3 ∨ j = 4 ∨ j = 5 ∨ j = 6 ∨ j = 7 by omega) with rfl | rfl | rfl | rfl | rfl | rfl | rfl | rfl <;> rfl
  · exact ⟨_, rfl, id⟩
  · exact ⟨_, rfl, id⟩
  · exact ⟨_, rfl, id⟩
  · exact ⟨_, rfl, id⟩
  · exact ⟨_, rfl, id⟩
  · exact ⟨_, rfl, id⟩
  · exact ⟨_, rfl, id⟩
  · exact ⟨_, rfl, id⟩
  · refine ⟨_, rfl, va_at_sw (fun j hj => ?_)⟩
    rcases (show j = 0 ∨ j = 1 by omega) with rfl | rfl <;> rfl
  · exact ⟨_, rfl, id⟩
  · exact ⟨_, rfl, id⟩
  · exact ⟨_, rfl, id⟩
  · exact ⟨_, rfl, id⟩
  · exact ⟨_, rfl, id⟩
theorem wl_of {g : GG} {q0 qz qc qm b L9 : Nat} {xs : Nat → Int32} {r5 : Nat → Nat} {H : Heap} {A : Nat → Prop} (hg : g.2.2 = adr q0 qz qc qm b L9 xs r5) (hP : va_P g.1 vwCl (ws00 g q0 qz qc qm r5) H) (hD : va_D A (ws00 g q0 qz qc qm r5)) : va_P g.1 vwCl (wl g h00) H ∧ va_D A (wl g h00) := by
  have lt : ∀ (k : Nat) (q : Nat × va_E), (wl g h00)[k]? = some q → k < 50 := fun k q hk => by
    have := (List.getElem?_eq_some_iff.mp hk).1
    rw [wl_len] at this; exact this
  have key := ws_cell g q0 qz qc qm b L9 xs r5 H hg
  have at' : ∀ (k : Nat) (q : Nat × va_E), (wl g h00)[k]? = some q → q = (g.2.2 k, ct g h00 k) := fun k q hk => by
    have := wl_get (g := g) (h := h00) (lt k q hk)
    rw [hk] at this
    exact Option.some.inj this
  refine ⟨fun k q hk => ?_, fun i j p q hi hj e => ?_, fun k q hk => ?_⟩
  · obtain ⟨e, a1, a2⟩ := key k (lt k q hk)
    rw [at' k q hk]
    exact a2 (hP k _ a1)
  · obtain ⟨e1, a1, -⟩ := key i (lt i p hi)
    obtain ⟨e2, b1, -⟩ := key j (lt j q hj)
    refine hD.1 i j _ _ a1 b1 ?_
    rw [at' i p hi, at' j q hj] at e
    exact e
  · obtain ⟨e1, a1, -⟩ := key k (lt k q hk)
    rw [at' k q hk]
    show A (g.2.2 k)
    exact hD.2 k (g.2.2 k, e1) a1

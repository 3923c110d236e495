/-! THE LAW'S OWN PICTURE: cell 47 is z, 48 is c, 49 is m; the script is 50, outside. -/
theorem z_pop {M : MD} {g : GG} {pc : Nat} {lv st : List AV} {h : HH} {Q : Option AV → HH → Prop} {v : AV} (d : decode (mb M) pc = .ok (.pop, 1)) (hv : avc v = 1) (k : Z M g (pc + 1) lv st h Q) : Z M g pc lv (v :: st) h Q := by
  intro p l e s m args below meth c F H locs ls X L
  refine lv_pop (va := cv g v) F.1 F.2.1 d (by rw [cv_cat]; exact hv) ?_
  exact k p l e s m args below meth c F H locs ls X L
theorem z_wrap {M : MD} {g : GG} {pc : Nat} {lv st : List AV} {h : HH} {Q : Option AV → HH → Prop} {a : Int} (k : Z M g pc lv (vi (iI a).toInt :: st) h Q) : Z M g pc lv (vi a :: st) h Q := by
  intro p l e s m args below meth c F H locs ls X L
  have h1 := k p l e s m args below meth c F H locs ls X L
  have e1 : (vi (iI a).toInt :: st).map (cv g) = (vi a :: st).map (cv g) := by
    rw [List.map_cons, List.map_cons]
    refine congrArg (· :: st.map (cv g)) ?_
    show Value.int (iI (iI a).toInt) = Value.int (iI a)
    rw [iI_of]
  rw [e1] at h1
  exact h1
theorem cn_weak {M : MD} {g : GG} {av : List AV} {h : HH} {Q Q' : Option AV → HH → Prop} (c : Cn M g av h Q) (k : ∀ r h', Q r h' → Q' r h') : Cn M g av h Q' := by
  intro l sz p e a1 a2 a3 s m args below h1 h2 hp hk
  obtain ⟨n, o, x1, x2, x3, ⟨⟨r, h', e1, e2, e3⟩, hf⟩, hL⟩ := c l sz p e a1 a2 a3 s m args below h1 h2 hp hk
  exact ⟨n, o, x1, x2, x3, ⟨⟨r, h', e1, k r h' e2, e3⟩, hf⟩, hL⟩
theorem td (i n : Nat) : (i : Int).tdiv (n : Int) = ((i / n : Nat) : Int) := rfl
theorem tm (i n : Nat) : (i : Int).tmod (n : Int) = ((i % n : Nat) : Int) := rfl
theorem shp47 : shp 47 = (1, 52, []) := rfl
theorem shp48 : shp 48 = (1, 18, []) := rfl
theorem shp49 : shp 49 = (2, 42, []) := rfl
/-- the law's letters -/
def ltr (e : Nat) (b : Bool) : Int := if b then -(e : Int) - 1 else (e : Int) + 1
theorem ltr_le (e : Nat) (b : Bool) : ltr e b ≤ 0 ↔ b = true := by unfold ltr; cases b <;> simp <;> omega
theorem ltr_gt (e : Nat) (b : Bool) : 0 < ltr e b ↔ b = false := by unfold ltr; cases b <;> simp <;> omega
theorem ltr_r {e n : Nat} (b : Bool) (he : e < n) : -(n : Int) ≤ ltr e b ∧ ltr e b ≤ n := by unfold ltr; cases b <;> simp <;> omega
theorem ltr_t (e : Nat) : ltr e true = -(e : Int) - 1 := rfl
theorem ltr_f (e : Nat) : ltr e false = (e : Int) + 1 := rfl
theorem ltr_neg (e : Nat) (b : Bool) : -ltr e b = ltr e (!b) := by cases b <;> simp [ltr] <;> omega
theorem ltr_p {e f : Nat} {b : Bool} : ltr f b = (e : Int) + 1 ↔ f = e ∧ b = false := by unfold ltr; cases b <;> simp <;> omega
theorem ltr_n {e f : Nat} {b : Bool} : ltr f b = -(e : Int) - 1 ↔ f = e ∧ b = true := by unfold ltr; cases b <;> simp <;> omega
theorem ltr_ex {z : Int} {n : Nat} (h0 : z ≠ 0) (h1 : -(n : Int) ≤ z) (h2 : z ≤ n) : ∃ e b, z = ltr e b ∧ e < n := by
  by_cases q : 0 < z
  · exact ⟨(z - 1).toNat, false, by unfold ltr; simp; omega, by omega⟩
  · exact ⟨(-z - 1).toNat, true, by unfold ltr; simp; omega, by omega⟩
/-- z holds the complex -/
def ZC (f : Nat → Int) (σ : SG) : Prop := f 0 = sP σ ∧ f 1 = sE σ ∧ f 2 = sF σ ∧ (∀ e, e < sE σ → f (4 + 3 * e) = sfr σ e ∧ f (5 + 3 * e) = sto σ e ∧ f (6 + 3 * e) = sew σ e) ∧ (∀ k, k < sF σ → f (22 + 6 * k) = sfw σ k ∧ f (23 + 6 * k) = swl σ k ∧ ∀ j, j < swl σ k → f (24 + 6 * k + j) = ltr (sle σ k j) (ssg σ k j))
def ZB (f : Nat → Int) : Prop := ∀ j, j < 52 → -100 ≤ f j ∧ f j ≤ 100
/-- c holds the chains -/
def CC (f : Nat → Int) (σ : SG) : Prop := ∀ c e, c < 3 → e < sE σ → f (6 * c + e) = sch σ c e
theorem zc_fr {f : Nat → Int} {σ : SG} (Z : ZC f σ) {e : Nat} (he : e < sE σ) {z : Int} (hz : z = 4 + 3 * (e : Int)) : f z.toNat = sfr σ e := (ix (i := 4 + 3 * e) (by omega)).trans (Z.2.2.2.1 e he).1
theorem zc_to {f : Nat → Int} {σ : SG} (Z : ZC f σ) {e : Nat} (he : e < sE σ) {z : Int} (hz : z = 5 + 3 * (e : Int)) : f z.toNat = sto σ e := (ix (i := 5 + 3 * e) (by omega)).trans (Z.2.2.2.1 e he).2.1
theorem zc_ew {f : Nat → Int} {σ : SG} (Z : ZC f σ) {e : Nat} (he : e < sE σ) {z : Int} (hz : z = 6 + 3 * (e : Int)) : f z.toNat = sew σ e := (ix (i := 6 + 3 * e) (by omega)).trans (Z.2.2.2.1 e he).2.2
theorem zc_fw {f : Nat → Int} {σ : SG} (Z : ZC f σ) {k : Nat} (hk : k < sF σ) {z : Int} (hz : z = 22 + 6 * (k : Int)) : f z.toNat = sfw σ k := (ix (i := 22 + 6 * k) (by omega)).trans (Z.2.2.2.2 k hk).1
theorem zc_wl {f : Nat → Int} {σ : SG} (Z : ZC f σ) {k : Nat} (hk : k < sF σ) {z : Int} (hz : z = 23 + 6 * (k : Int)) : f z.toNat = swl σ k := (ix (i := 23 + 6 * k) (by omega)).trans (Z.2.2.2.2 k hk).2.1
theorem zc_lt {f : Nat → Int} {σ : SG} (Z : ZC f σ) {k j : Nat} (hk : k < sF σ) (hj : j < swl σ k) {z : Int} (hz : z = 24 + 6 * (k : Int) + (j : Int)) : f z.toNat = ltr (sle σ k j) (ssg σ k j) := (ix (i := 24 + 6 * k + j) (by omega)).trans ((Z.2.2.2.2 k hk).2.2 j hj)
theorem cc_ch {f : Nat → Int} {σ : SG} (C : CC f σ) {c e : Nat} (hc : c < 3) (he : e < sE σ) {z : Int} (hz : z = 6 * (c : Int) + (e : Int)) : f z.toNat = sch σ c e := (ix (i := 6 * c + e) (by omega)).trans (C c e hc he)
/-- points and edges alone: what begin and end need -/
def ZE (f : Nat → Int) (σ : SG) : Prop := f 0 = sP σ ∧ f 1 = sE σ ∧ ∀ e, e < sE σ → f (4 + 3 * e) = sfr σ e ∧ f (5 + 3 * e) = sto σ e ∧ f (6 + 3 * e) = sew σ e
theorem ZC.ze {f : Nat → Int} {σ : SG} (Z : ZC f σ) : ZE f σ := ⟨Z.1, Z.2.1, Z.2.2.2.1⟩
theorem ze_bg {f : Nat → Int} {σ : SG} (Z : ZE f σ) {e : Nat} {y : Bool} (he : e < sE σ) : (0 < ltr e y → f (1 + 3 * ltr e y).toNat = bgE σ e y) ∧ (ltr e y ≤ 0 → f (2 - 3 * ltr e y).toNat = bgE σ e y) := by
  cases y
  · rw [ltr_f]
    exact ⟨fun _ => (ix (i := 4 + 3 * e) (by omega)).trans (Z.2.2 e he).1, fun h => by omega⟩
  · rw [ltr_t]
    exact ⟨fun h => by omega, fun _ => (ix (i := 5 + 3 * e) (by omega)).trans (Z.2.2 e he).2.1⟩
theorem ze_en {f : Nat → Int} {σ : SG} (Z : ZE f σ) {e : Nat} {y : Bool} (he : e < sE σ) : (0 < ltr e y → f (2 + 3 * ltr e y).toNat = enE σ e y) ∧ (ltr e y ≤ 0 → f (1 - 3 * ltr e y).toNat = enE σ e y) := by
  cases y
  · rw [ltr_f]
    exact ⟨fun _ => (ix (i := 5 + 3 * e) (by omega)).trans (Z.2.2 e he).2.1, fun h => by omega⟩
  · rw [ltr_t]
    exact ⟨fun h => by omega, fun _ => (ix (i := 4 + 3 * e) (by omega)).trans (Z.2.2 e he).1⟩
/-- bits -/
theorem iand_pos (v : Int) : 0 ≤ iand v 2147483647 := by
  unfold iand
  have e : (iI v &&& iI 2147483647).toInt = (iI v &&& iI 2147483647).toBitVec.toInt := rfl
  rw [e, Int32.toBitVec_and]
  have e2 : (iI 2147483647).toBitVec = 2147483647#32 := by decide
  rw [e2]
  have hn : ((iI v).toBitVec &&& 2147483647#32).toNat ≤ 2147483647 := by
    rw [BitVec.toNat_and]
    exact Nat.and_le_right
  rw [BitVec.toInt_eq_toNat_of_lt (by omega)]
  omega
theorem b_dec0 : ∀ r : Fin 64, r.val ≠ 0 → iand (r.val : Int) ((r.val : Int) - 1) = ((r.val - 2 ^ lb r.val : Nat) : Int) ∧ iand (r.val : Int) (0 - (r.val : Int)) = ((2 ^ lb r.val : Nat) : Int) := by decide +kernel
theorem b_dec {r : Nat} (h : r < 64) (h0 : 0 < r) : iand (r : Int) ((r : Int) - 1) = ((r - 2 ^ lb r : Nat) : Int) ∧ iand (r : Int) (0 - (r : Int)) = ((2 ^ lb r : Nat) : Int) := b_dec0 ⟨r, h⟩ (by show r ≠ 0; omega)
/-- the place of the k-th bit -/
def nb : Nat → Nat → Nat
  | m, 0 => lb m
  | m, k + 1 => nb (m - 2 ^ lb m) k
theorem nb_s (m k : Nat) : nb m (k + 1) = nb (m - 2 ^ lb m) k := rfl
theorem nb_0 (m : Nat) : nb m 0 = lb m := rfl
theorem pc6_lt {m k : Nat} (hm : m < 64) (hk : k < pc6 m) : 0 < m := by
  have := (pc6_r hm).2
  omega
theorem nb_r : ∀ (k m : Nat), m < 64 → k < pc6 m → nb m k < 6
  | 0, m, hm, hk => (b_low hm (pc6_lt hm hk)).2.2.2.1
  | k + 1, m, hm, hk => by
    have b := b_low hm (pc6_lt hm hk)
    have b2 := b_pos (lb m)
    exact nb_r k _ (by omega) (by omega)
def pr5 (k : Int) : Int := if k = 0 then 0 else if k < 3 then k + 1 else 2 * k - 1
theorem gcd_tmod {x y : Int} (hx : 0 ≤ x) (hy : 0 ≤ y) : Int.gcd x y = Int.gcd y (x.tmod y) := by
  unfold Int.gcd
  rw [Int.natAbs_tmod, Nat.gcd_comm y.natAbs, ← Nat.gcd_rec y.natAbs x.natAbs, Nat.gcd_comm]
theorem nb_nt0 : ∀ m : Fin 64, ∀ k : Fin 6, k.val < pc6 m.val → nb m.val k.val = nt m.val k.val := by decide +kernel
theorem nb_nt {m k : Nat} (hm : m < 64) (hk : k < pc6 m) : nb m k = nt m k := nb_nt0 ⟨m, hm⟩ ⟨k, by have := (pc6_r hm).1; show k < 6; omega⟩ hk
set_option maxRecDepth 100000 in
set_option maxHeartbeats 4000000 in
theorem c_L_cell {g : GG} {h : HH} {k : Int} (hk : 0 ≤ k ∧ k ≤ 1000) : CpI mL_cell g [vr 50, vi k] h R32 := by
  refine cn_q (lv := [vr 50, vi k]) tL_cell.1 rfl rfl (fun hR Q hQ => ?_)
  refine z_iload_n dL_cell_0 rfl ?_
  refine z_aload_n dL_cell_1 rfl ?_
  refine z_slen dL_cell_2 (fun r2 => ?_)
  refine z_icmp_ge 12 dL_cell_3 (by decide) (by omega) (by omega) (fun c3 => ?_) (fun c3 => ?_)
  · refine z_ldc (1327217884) dL_cell_12 qL_7 rfl ?_
    refine z_iload_n dL_cell_14 rfl ?_
    refine z_iconst dL_cell_15 ?_
    refine z_iadd dL_cell_16 ?_
    refine z_imul dL_cell_17 ?_
    refine z_wrap ?_
    exact z_ireturn dL_cell_18 rfl (hQ _ _ ⟨_, rfl, (r32_of _), rfl⟩)
  · refine z_aload_n dL_cell_6 rfl ?_
    refine z_iload_n dL_cell_7 rfl ?_
    refine z_sld dL_cell_8 (by omega) (by omega) ?_
    refine z_goto 18 dL_cell_9 (by decide) ?_
    refine z_wrap ?_
    exact z_ireturn dL_cell_18 rfl (hQ _ _ ⟨_, rfl, (r32_of _), rfl⟩)
set_option maxRecDepth 100000 in
set_option maxHeartbeats 4000000 in
theorem c_L_less {g : GG} {h : HH} {v n : Int} (hn : 1 ≤ n ∧ n < 2147483648) : CpI mL_less g [vi v, vi n] h (fun z => 0 ≤ z ∧ z < n) := by
  refine cn_q (lv := [vi v, vi n]) tL_less.1 rfl rfl (fun hR Q hQ => ?_)
  have i0 := iand_pos v
  refine z_iload_n dL_less_0 rfl ?_
  refine z_ldc (2147483647) dL_less_1 qL_8 rfl ?_
  refine z_iand dL_less_3 ?_
  refine z_iload_n dL_less_4 rfl ?_
  refine z_irem dL_less_5 (r32_of _) (by omega) (by omega) ?_
  exact z_ireturn dL_less_6 rfl (hQ _ _ ⟨_, rfl, ⟨Int.tmod_nonneg _ i0, Int.tmod_lt_of_pos _ (by omega)⟩, rfl⟩)
set_option maxRecDepth 100000 in
set_option maxHeartbeats 4000000 in
theorem c_L_one {g : GG} {h : HH} {σ : SG} (W : WF σ) (Zc : ZC (h 47) σ) {p e : Nat} (hp : p < 100) (he : e < sE σ) : CeI mL_one g [vr 47, vi (p : Int), vi (e : Int)] h (ent1 σ p e) := by
  refine cn_q (lv := [vr 47, vi (p : Int), vi (e : Int)]) tL_one.1 rfl rfl (fun hR Q hQ => ?_)
  have w1 := W.1
  have w2 := W.2.1
  have w3 := W.2.2.1
  have w4 := W.2.2.2.1 e he
  refine z_aload_n dL_one_0 rfl ?_
  refine z_iconst dL_one_1 ?_
  refine z_iconst dL_one_2 ?_
  refine z_iload_n dL_one_3 rfl ?_
  refine z_imul dL_one_4 ?_
  refine z_iadd dL_one_5 ?_
  refine z_iaload dL_one_6 (by decide) rfl (by omega) (by omega) (by first | decide | omega) (fun r6 => ?_)
  rw [zc_to Zc he (z := 5 + 3 * (e : Int)) rfl]
  refine z_iload_n dL_one_7 rfl ?_
  refine z_icmp_ne 15 dL_one_8 (by decide) (by omega) (by omega) (fun c8 => ?_) (fun c8 => ?_)
  · refine z_iconst dL_one_15 ?_
    refine z_aload_n dL_one_16 rfl ?_
    refine z_iconst dL_one_17 ?_
    refine z_iconst dL_one_18 ?_
    refine z_iload_n dL_one_19 rfl ?_
    refine z_imul dL_one_20 ?_
    refine z_iadd dL_one_21 ?_
    refine z_iaload dL_one_22 (by decide) rfl (by omega) (by omega) (by first | decide | omega) (fun r22 => ?_)
    rw [zc_fr Zc he (z := 4 + 3 * (e : Int)) rfl]
    refine z_iload_n dL_one_23 rfl ?_
    refine z_icmp_ne 31 dL_one_24 (by decide) (by omega) (by omega) (fun c24 => ?_) (fun c24 => ?_)
    · refine z_iconst dL_one_31 ?_
      refine z_isub dL_one_32 ?_
      exact z_ireturn dL_one_33 rfl (hQ _ _ ⟨_, rfl, (by unfold ent1; split <;> split <;> omega), rfl⟩)
    · refine z_iconst dL_one_27 ?_
      refine z_goto 32 dL_one_28 (by decide) ?_
      refine z_isub dL_one_32 ?_
      exact z_ireturn dL_one_33 rfl (hQ _ _ ⟨_, rfl, (by unfold ent1; split <;> split <;> omega), rfl⟩)
  · refine z_iconst dL_one_11 ?_
    refine z_goto 16 dL_one_12 (by decide) ?_
    refine z_aload_n dL_one_16 rfl ?_
    refine z_iconst dL_one_17 ?_
    refine z_iconst dL_one_18 ?_
    refine z_iload_n dL_one_19 rfl ?_
    refine z_imul dL_one_20 ?_
    refine z_iadd dL_one_21 ?_
    refine z_iaload dL_one_22 (by decide) rfl (by omega) (by omega) (by first | decide | omega) (fun r22 => ?_)
    rw [zc_fr Zc he (z := 4 + 3 * (e : Int)) rfl]
    refine z_iload_n dL_one_23 rfl ?_
    refine z_icmp_ne 31 dL_one_24 (by decide) (by omega) (by omega) (fun c24 => ?_) (fun c24 => ?_)
    · refine z_iconst dL_one_31 ?_
      refine z_isub dL_one_32 ?_
      exact z_ireturn dL_one_33 rfl (hQ _ _ ⟨_, rfl, (by unfold ent1; split <;> split <;> omega), rfl⟩)
    · refine z_iconst dL_one_27 ?_
      refine z_goto 32 dL_one_28 (by decide) ?_
      refine z_isub dL_one_32 ?_
      exact z_ireturn dL_one_33 rfl (hQ _ _ ⟨_, rfl, (by unfold ent1; split <;> split <;> omega), rfl⟩)
set_option maxRecDepth 100000 in
set_option maxHeartbeats 4000000 in
theorem c_L_two {g : GG} {h : HH} {σ : SG} (W : WF σ) (Zc : ZC (h 47) σ) {e f : Nat} (he : e < 6) (hf : f < sF σ) : CeI mL_two g [vr 47, vi (e : Int), vi (f : Int)] h (ent2 σ e f) := by
  refine cn_q (lv := [vr 47, vi (e : Int), vi (f : Int), vx, vx, vx]) tL_two.1 rfl rfl (fun hR Q hQ => ?_)
  have w1 := W.1
  have w2 := W.2.1
  have w3 := W.2.2.1
  have w4 := (W.2.2.2.2.1 f hf).2.2.2.1
  have w5 := (W.2.2.2.2.1 f hf).2.2.2.2.1
  refine z_iconst dL_two_0 ?_
  refine z_istore_n dL_two_1 (by decide) rfl ?_
  refine z_iconst dL_two_2 ?_
  refine z_istore dL_two_3 (by decide) rfl ?_
  have loop5 : ∀ (nL9 : Nat) (k : Nat), (k ≤ swl σ f) → swl σ f - k < nL9 → Z mL_two g 5 [vr 47, vi (e : Int), vi (f : Int), vi (sI k (lsg σ e f)), vi (k : Int), vx] [] h Q := by
    intro nL9
    induction nL9 with
    | zero => intro k hk hnL9; exact absurd hnL9 (Nat.not_lt_zero _)
    | succ nL9 ih5 =>
      intro k hk hnL9
      refine z_iload dL_two_5 rfl ?_
      refine z_aload_n dL_two_7 rfl ?_
      refine z_bipush dL_two_8 (by decide) ?_
      refine z_bipush dL_two_10 (by decide) ?_
      refine z_iload_n dL_two_12 rfl ?_
      refine z_imul dL_two_13 ?_
      refine z_iadd dL_two_14 ?_
      refine z_iaload dL_two_15 (by decide) rfl (by omega) (by omega) (by first | decide | omega) (fun r15 => ?_)
      rw [zc_wl Zc hf (z := 23 + 6 * (f : Int)) rfl]
      refine z_icmp_ge 68 dL_two_16 (by decide) (by omega) (by omega) (fun c16 => ?_) (fun c16 => ?_)
      · refine z_iload_n dL_two_68 rfl ?_
        exact z_ireturn dL_two_69 rfl (hQ _ _ ⟨_, rfl, (by unfold ent2; rw [show k = swl σ f from by omega]), rfl⟩)
      · refine z_aload_n dL_two_19 rfl ?_
        refine z_bipush dL_two_20 (by decide) ?_
        refine z_bipush dL_two_22 (by decide) ?_
        refine z_iload_n dL_two_24 rfl ?_
        refine z_imul dL_two_25 ?_
        refine z_iadd dL_two_26 ?_
        refine z_iload dL_two_27 rfl ?_
        refine z_iadd dL_two_29 ?_
        refine z_iaload dL_two_30 (by decide) rfl (by omega) (by omega) (by first | decide | omega) (fun r30 => ?_)
        rw [zc_lt Zc hf (j := k) (by omega) (z := 24 + 6 * (f : Int) + (k : Int)) rfl]
        have l0 := w5 k (by omega)
        have l1 := ltr_r (ssg σ f k) (show sle σ f k < 6 by omega)
        have l2 := @ltr_p e (sle σ f k) (ssg σ f k)
        have l3 := @ltr_n e (sle σ f k) (ssg σ f k)
        refine z_istore dL_two_31 (by decide) rfl ?_
        refine z_iload_n dL_two_33 rfl ?_
        refine z_iload dL_two_34 rfl ?_
        refine z_iload_n dL_two_36 rfl ?_
        refine z_iconst dL_two_37 ?_
        refine z_iadd dL_two_38 ?_
        refine z_icmp_ne 46 dL_two_39 (by decide) (by omega) (by omega) (fun c39 => ?_) (fun c39 => ?_)
        · refine z_iload dL_two_46 rfl ?_
          refine z_iload_n dL_two_48 rfl ?_
          refine z_ineg dL_two_49 ?_
          refine z_iconst dL_two_50 ?_
          refine z_isub dL_two_51 ?_
          refine z_icmp_ne 59 dL_two_52 (by decide) (by omega) (by omega) (fun c52 => ?_) (fun c52 => ?_)
          · refine z_iconst dL_two_59 ?_
            refine z_iadd dL_two_60 ?_
            refine z_istore_n dL_two_61 (by decide) rfl ?_
            refine z_iinc dL_two_62 rfl (by decide) rfl ?_
            refine z_goto 5 dL_two_65 (by decide) ?_
            refine z_forget 5 ?_
            have e1 : sI k (lsg σ e f) + 0 = sI (k + 1) (lsg σ e f) := by rw [sI_s]; unfold lsg; rw [if_neg (fun q => by cases hb : ssg σ f k with
                | true => exact c52 (l3.mpr ⟨q, hb⟩)
                | false => exact c39 (l2.mpr ⟨q, hb⟩))]
            rw [e1]
            exact ih5 (k + 1) (by omega) (by omega)
          · refine z_iconst dL_two_55 ?_
            refine z_goto 60 dL_two_56 (by decide) ?_
            refine z_iadd dL_two_60 ?_
            refine z_istore_n dL_two_61 (by decide) rfl ?_
            refine z_iinc dL_two_62 rfl (by decide) rfl ?_
            refine z_goto 5 dL_two_65 (by decide) ?_
            refine z_forget 5 ?_
            have e1 : sI k (lsg σ e f) + -1 = sI (k + 1) (lsg σ e f) := by rw [sI_s]; unfold lsg; have l4 := l3.mp c52; rw [if_pos l4.1, if_pos l4.2]
            rw [e1]
            exact ih5 (k + 1) (by omega) (by omega)
        · refine z_iconst dL_two_42 ?_
          refine z_goto 60 dL_two_43 (by decide) ?_
          refine z_iadd dL_two_60 ?_
          refine z_istore_n dL_two_61 (by decide) rfl ?_
          refine z_iinc dL_two_62 rfl (by decide) rfl ?_
          refine z_goto 5 dL_two_65 (by decide) ?_
          refine z_forget 5 ?_
          have e1 : sI k (lsg σ e f) + 1 = sI (k + 1) (lsg σ e f) := by rw [sI_s]; unfold lsg; have l4 := l2.mp c39; rw [if_pos l4.1, if_neg (by rw [l4.2]; decide)]
          rw [e1]
          exact ih5 (k + 1) (by omega) (by omega)
  exact loop5 _ 0 (by omega) (Nat.lt_succ_self _)
set_option maxRecDepth 100000 in
set_option maxHeartbeats 4000000 in
theorem c_L_at1 {g : GG} {h : HH} {σ : SG} (W : WF σ) (Zc : ZC (h 47) σ) {i j : Nat} (hi : i < 100) (hj : j < sE σ) : CeI mL_at g [vr 47, vi 1, vi (i : Int), vi (j : Int)] h (ent1 σ i j) := by
  refine cn_q (lv := [vr 47, vi 1, vi (i : Int), vi (j : Int)]) tL_at.1 rfl rfl (fun hR Q hQ => ?_)
  refine z_iload_n dL_at_0 rfl ?_
  refine z_iconst dL_at_1 ?_
  refine z_icmp_ne 14 dL_at_2 (by decide) (by omega) (by omega) (fun c2 => ?_) (fun c2 => ?_)
  · omega
  · refine z_aload_n dL_at_5 rfl ?_
    refine z_iload_n dL_at_6 rfl ?_
    refine z_iload_n dL_at_7 rfl ?_
    refine z_callS_eI (M := mL_at) [_, _, _] tL_one kL_9 dL_at_8 ⟨by decide, by decide⟩ rfl (Nat.le_of_ble_eq_true rfl) rfl (c_L_one W Zc (p := i) (e := j) (by omega) (by omega)) ?_
    refine z_goto 34 dL_at_11 (by decide) ?_
    exact z_ireturn dL_at_34 rfl (hQ _ _ ⟨_, rfl, rfl, rfl⟩)
set_option maxRecDepth 100000 in
set_option maxHeartbeats 4000000 in
theorem c_L_at2 {g : GG} {h : HH} {σ : SG} (W : WF σ) (Zc : ZC (h 47) σ) {i j : Nat} (hi : i < 6) (hj : j < sF σ) : CeI mL_at g [vr 47, vi 2, vi (i : Int), vi (j : Int)] h (ent2 σ i j) := by
  refine cn_q (lv := [vr 47, vi 2, vi (i : Int), vi (j : Int)]) tL_at.1 rfl rfl (fun hR Q hQ => ?_)
  have w1 := W.1
  have w2 := W.2.1
  have w3 := W.2.2.1
  refine z_iload_n dL_at_0 rfl ?_
  refine z_iconst dL_at_1 ?_
  refine z_icmp_ne 14 dL_at_2 (by decide) (by omega) (by omega) (fun c2 => ?_) (fun c2 => ?_)
  · refine z_iload_n dL_at_14 rfl ?_
    refine z_iconst dL_at_15 ?_
    refine z_icmp_ne 28 dL_at_16 (by decide) (by omega) (by omega) (fun c16 => ?_) (fun c16 => ?_)
    · refine z_aload_n dL_at_28 rfl ?_
      refine z_iload_n dL_at_29 rfl ?_
      refine z_iload_n dL_at_30 rfl ?_
      refine z_callS_eI (M := mL_at) [_, _, _] tL_two kL_15 dL_at_31 ⟨by decide, by decide⟩ rfl (Nat.le_of_ble_eq_true rfl) rfl (c_L_two W Zc (e := i) (f := j) (by omega) (by omega)) ?_
      exact z_ireturn dL_at_34 rfl (hQ _ _ ⟨_, rfl, rfl, rfl⟩)
    · omega
  · omega
set_option maxRecDepth 100000 in
set_option maxHeartbeats 4000000 in
theorem c_L_rows1 {g : GG} {h : HH} {σ : SG} (Zc : ZC (h 47) σ) : CeI mL_rows g [vr 47, vi 1] h (sP σ) := by
  refine cn_q (lv := [vr 47, vi 1]) tL_rows.1 rfl rfl (fun hR Q hQ => ?_)
  refine z_aload_n dL_rows_0 rfl ?_
  refine z_iload_n dL_rows_1 rfl ?_
  refine z_iconst dL_rows_2 ?_
  refine z_isub dL_rows_3 ?_
  refine z_iaload dL_rows_4 (by decide) rfl (by omega) (by omega) (by first | decide | omega) (fun r4 => ?_)
  exact z_ireturn dL_rows_5 rfl (hQ _ _ ⟨_, rfl, (show h 47 (Int.toNat 0) = sP σ from Zc.1), rfl⟩)
set_option maxRecDepth 100000 in
set_option maxHeartbeats 4000000 in
theorem c_L_rows2 {g : GG} {h : HH} {σ : SG} (Zc : ZC (h 47) σ) : CeI mL_rows g [vr 47, vi 2] h (sE σ) := by
  refine cn_q (lv := [vr 47, vi 2]) tL_rows.1 rfl rfl (fun hR Q hQ => ?_)
  refine z_aload_n dL_rows_0 rfl ?_
  refine z_iload_n dL_rows_1 rfl ?_
  refine z_iconst dL_rows_2 ?_
  refine z_isub dL_rows_3 ?_
  refine z_iaload dL_rows_4 (by decide) rfl (by omega) (by omega) (by first | decide | omega) (fun r4 => ?_)
  exact z_ireturn dL_rows_5 rfl (hQ _ _ ⟨_, rfl, (show h 47 (Int.toNat 1) = sE σ from Zc.2.1), rfl⟩)
set_option maxRecDepth 100000 in
set_option maxHeartbeats 4000000 in
theorem c_L_all1 {g : GG} {h : HH} {σ : SG} (W : WF σ) (Zc : ZC (h 47) σ) : CeI mL_all g [vr 47, vi 1] h ((2 ^ sE σ - 1 : Nat) : Int) := by
  refine cn_q (lv := [vr 47, vi 1]) tL_all.1 rfl rfl (fun hR Q hQ => ?_)
  have w1 := W.1
  have w2 := W.2.1
  have w3 := W.2.2.1
  refine z_iconst dL_all_0 ?_
  refine z_aload_n dL_all_1 rfl ?_
  refine z_iload_n dL_all_2 rfl ?_
  refine z_iaload dL_all_3 (by decide) rfl (by omega) (by omega) (by first | decide | omega) (fun r3 => ?_)
  rw [show h 47 (Int.toNat 1) = sE σ from Zc.2.1]
  refine z_ishl dL_all_4 ?_
  rw [(b_shl w2).1]
  refine z_iconst dL_all_5 ?_
  refine z_isub dL_all_6 ?_
  exact z_ireturn dL_all_7 rfl (hQ _ _ ⟨_, rfl, (by have := b_pos (sE σ); omega), rfl⟩)
set_option maxRecDepth 100000 in
set_option maxHeartbeats 4000000 in
theorem c_L_all2 {g : GG} {h : HH} {σ : SG} (W : WF σ) (Zc : ZC (h 47) σ) : CeI mL_all g [vr 47, vi 2] h ((2 ^ sF σ - 1 : Nat) : Int) := by
  refine cn_q (lv := [vr 47, vi 2]) tL_all.1 rfl rfl (fun hR Q hQ => ?_)
  have w1 := W.1
  have w2 := W.2.1
  have w3 := W.2.2.1
  refine z_iconst dL_all_0 ?_
  refine z_aload_n dL_all_1 rfl ?_
  refine z_iload_n dL_all_2 rfl ?_
  refine z_iaload dL_all_3 (by decide) rfl (by omega) (by omega) (by first | decide | omega) (fun r3 => ?_)
  rw [show h 47 (Int.toNat 2) = sF σ from Zc.2.2.1]
  refine z_ishl dL_all_4 ?_
  rw [(b_shl (show sF σ ≤ 6 by omega)).1]
  refine z_iconst dL_all_5 ?_
  refine z_isub dL_all_6 ?_
  exact z_ireturn dL_all_7 rfl (hQ _ _ ⟨_, rfl, (by have := b_pos (sF σ); omega), rfl⟩)
set_option maxRecDepth 100000 in
set_option maxHeartbeats 4000000 in
theorem c_L_ones {g : GG} {h : HH} {m : Nat} (hm : m < 64) : CeI mL_ones g [vi (m : Int)] h (pc6 m) := by
  refine cn_q (lv := [vi (m : Int), vx, vx]) tL_ones.1 rfl rfl (fun hR Q hQ => ?_)
  have pm := pc6_r hm
  refine z_iconst dL_ones_0 ?_
  refine z_istore_n dL_ones_1 (by decide) rfl ?_
  refine z_iload_n dL_ones_2 rfl ?_
  refine z_istore_n dL_ones_3 (by decide) rfl ?_
  have loop4 : ∀ (nL9 : Nat) (l k : Nat), (l < 64) → (k + pc6 l = pc6 m) → l < nL9 → Z mL_ones g 4 [vi (m : Int), vi (k : Int), vi (l : Int)] [] h Q := by
    intro nL9
    induction nL9 with
    | zero => intro l k hl hk hnL9; exact absurd hnL9 (Nat.not_lt_zero _)
    | succ nL9 ih4 =>
      intro l k hl hk hnL9
      refine z_iload_n dL_ones_4 rfl ?_
      refine z_if_eq 20 dL_ones_5 (by decide) (by omega) (fun c5 => ?_) (fun c5 => ?_)
      · refine z_iload_n dL_ones_20 rfl ?_
        exact z_ireturn dL_ones_21 rfl (hQ _ _ ⟨_, rfl, (by have := (pc6_r hl).2; omega), rfl⟩)
      · have b1 := b_dec hl (by omega)
        have b2 := b_low hl (by omega)
        have b3 := b_pos (lb l)
        refine z_iinc dL_ones_8 rfl (by decide) rfl ?_
        refine z_iload_n dL_ones_11 rfl ?_
        refine z_iload_n dL_ones_12 rfl ?_
        refine z_iconst dL_ones_13 ?_
        refine z_isub dL_ones_14 ?_
        refine z_iand dL_ones_15 ?_
        rw [b1.1]
        refine z_istore_n dL_ones_16 (by decide) rfl ?_
        refine z_goto 4 dL_ones_17 (by decide) ?_
        exact ih4 (l - 2 ^ lb l) (k + 1) (by omega) (by omega) (by omega)
  exact loop4 _ m 0 (by omega) (by omega) (Nat.lt_succ_self _)
set_option maxRecDepth 100000 in
set_option maxHeartbeats 4000000 in
theorem c_L_nth {g : GG} {h : HH} {m k : Nat} (hm : m < 64) (hk : k < pc6 m) : CeI mL_nth g [vi (m : Int), vi (k : Int)] h (nb m k) := by
  refine cn_q (lv := [vi (m : Int), vi (k : Int), vx, vx]) tL_nth.1 rfl rfl (fun hR Q hQ => ?_)
  have pm := pc6_r hm
  refine z_iload_n dL_nth_0 rfl ?_
  refine z_istore_n dL_nth_1 (by decide) rfl ?_
  refine z_iconst dL_nth_2 ?_
  refine z_istore_n dL_nth_3 (by decide) rfl ?_
  have loop4 : ∀ (nL9 : Nat) (l j : Nat), (l < 64) → (j ≤ k) → (nb l (k - j) = nb m k) → (k - j < pc6 l) → k - j < nL9 → Z mL_nth g 4 [vi (m : Int), vi (k : Int), vi (l : Int), vi (j : Int)] [] h Q := by
    intro nL9
    induction nL9 with
    | zero => intro l j hl hj hn hp hnL9; exact absurd hnL9 (Nat.not_lt_zero _)
    | succ nL9 ih4 =>
      intro l j hl hj hn hp hnL9
      refine z_iload_n dL_nth_4 rfl ?_
      refine z_iload_n dL_nth_5 rfl ?_
      refine z_icmp_ge 21 dL_nth_6 (by decide) (by omega) (by omega) (fun c6 => ?_) (fun c6 => ?_)
      · have b0 := pc6_lt hl hp
        have b1 := b_dec hl b0
        have b2 := b_low hl b0
        have b3 := b_pos (lb l)
        rw [show k - j = 0 by omega, nb_0] at hn
        refine z_iload_n dL_nth_21 rfl ?_
        refine z_iconst dL_nth_22 ?_
        refine z_iload_n dL_nth_23 rfl ?_
        refine z_isub dL_nth_24 ?_
        refine z_iand dL_nth_25 ?_
        rw [b1.2]
        refine z_iconst dL_nth_26 ?_
        refine z_isub dL_nth_27 ?_
        rw [show ((2 ^ lb l : Nat) : Int) - 1 = ((2 ^ lb l - 1 : Nat) : Int) by omega]
        refine z_callS_eI (M := mL_nth) [_] tL_ones kL_18 dL_nth_28 ⟨by decide, by decide⟩ rfl (Nat.le_of_ble_eq_true rfl) rfl (c_L_ones (by omega)) ?_
        rw [b2.2.1, hn]
        exact z_ireturn dL_nth_31 rfl (hQ _ _ ⟨_, rfl, rfl, rfl⟩)
      · have b0 := pc6_lt hl hp
        have b1 := b_dec hl b0
        have b2 := b_low hl b0
        have b3 := b_pos (lb l)
        refine z_iload_n dL_nth_9 rfl ?_
        refine z_iload_n dL_nth_10 rfl ?_
        refine z_iconst dL_nth_11 ?_
        refine z_isub dL_nth_12 ?_
        refine z_iand dL_nth_13 ?_
        rw [b1.1]
        refine z_istore_n dL_nth_14 (by decide) rfl ?_
        refine z_iinc dL_nth_15 rfl (by decide) rfl ?_
        refine z_goto 4 dL_nth_18 (by decide) ?_
        exact ih4 (l - 2 ^ lb l) (j + 1) (by omega) (by omega) (by rw [← hn, show k - j = k - (j + 1) + 1 by omega]; rfl) (by omega) (by omega)
  exact loop4 _ m 0 hm (by omega) rfl (by omega) (Nat.lt_succ_self _)
set_option maxRecDepth 100000 in
set_option maxHeartbeats 4000000 in
theorem c_L_gcd {g : GG} {h : HH} {a b : Int} (ha : -4611686018427387904 ≤ a ∧ a ≤ 4611686018427387904) (hb : -4611686018427387904 ≤ b ∧ b ≤ 4611686018427387904) : CeL mL_gcd g [vl a, vl b] h (Int.gcd a b) := by
  refine cn_q (lv := [vl a, vx, vl b, vx, vx, vx, vx, vx, vx, vx]) tL_gcd.1 rfl rfl (fun hR Q hQ => ?_)
  refine z_lload_n dL_gcd_0 rfl ?_
  refine z_lconst (z := 0) dL_gcd_1 rfl ?_
  refine z_lcmp dL_gcd_2 (by omega) (by omega) ?_
  refine z_if_ge 11 dL_gcd_3 (by decide) (icmp_r _ _) (fun c3 => ?_) (fun c3 => ?_)
  · have c3 := icmp_ge.mp c3
    refine z_lload_n dL_gcd_11 rfl ?_
    refine z_lstore dL_gcd_12 (by decide) rfl ?_
    refine z_lload_n dL_gcd_14 rfl ?_
    refine z_lconst (z := 0) dL_gcd_15 rfl ?_
    refine z_lcmp dL_gcd_16 (by omega) (by omega) ?_
    refine z_if_ge 25 dL_gcd_17 (by decide) (icmp_r _ _) (fun c17 => ?_) (fun c17 => ?_)
    · have c17 := icmp_ge.mp c17
      refine z_lload_n dL_gcd_25 rfl ?_
      refine z_lstore dL_gcd_26 (by decide) rfl ?_
      have loop28 : ∀ (nL9 : Nat) (x y : Int), (0 ≤ x ∧ x ≤ 4611686018427387904) → (0 ≤ y ∧ y ≤ 4611686018427387904) → (Int.gcd x y = Int.gcd a b) → y.toNat < nL9 → Z mL_gcd g 28 [vl a, vx, vl b, vx, vl x, vx, vl y, vx, vx, vx] [] h Q := by
        intro nL9
        induction nL9 with
        | zero => intro x y hx hy hg hnL9; exact absurd hnL9 (Nat.not_lt_zero _)
        | succ nL9 ih28 =>
          intro x y hx hy hg hnL9
          refine z_lload dL_gcd_28 rfl ?_
          refine z_lconst (z := 0) dL_gcd_30 rfl ?_
          refine z_lcmp dL_gcd_31 (by omega) (by omega) ?_
          refine z_if_le 53 dL_gcd_32 (by decide) (icmp_r _ _) (fun c32 => ?_) (fun c32 => ?_)
          · have c32 := icmp_le.mp c32
            refine z_lload dL_gcd_53 rfl ?_
            exact z_lreturn dL_gcd_55 rfl (hQ _ _ ⟨_, rfl, (by rw [← hg, show y = 0 by omega, Int.gcd_zero_right]; omega), rfl⟩)
          · have c32 := icmp_gt.mp c32
            refine z_lload dL_gcd_35 rfl ?_
            refine z_lload dL_gcd_37 rfl ?_
            refine z_lrem dL_gcd_39 (by omega) (by omega) (by omega) ?_
            have t1 := Int.tmod_nonneg y hx.1
            have t2 := Int.tmod_lt_of_pos x (show 0 < y by omega)
            have t3 := gcd_tmod hx.1 hy.1
            refine z_lstore dL_gcd_40 (by decide) rfl ?_
            refine z_lload dL_gcd_42 rfl ?_
            refine z_lstore dL_gcd_44 (by decide) rfl ?_
            refine z_lload dL_gcd_46 rfl ?_
            refine z_lstore dL_gcd_48 (by decide) rfl ?_
            refine z_goto 28 dL_gcd_50 (by decide) ?_
            refine z_forget 8 ?_
            exact ih28 y (x.tmod y) (by omega) (by omega) (by rw [← t3]; exact hg) (by omega)
      first | exact loop28 _ a b (by omega) (by omega) rfl (Nat.lt_succ_self _) | exact loop28 _ a (-b) (by omega) (by omega) (by rw [Int.gcd_neg]) (Nat.lt_succ_self _) | exact loop28 _ (-a) b (by omega) (by omega) (by rw [Int.neg_gcd]) (Nat.lt_succ_self _) | exact loop28 _ (-a) (-b) (by omega) (by omega) (by rw [Int.neg_gcd, Int.gcd_neg]) (Nat.lt_succ_self _)
    · have c17 := icmp_lt.mp c17
      refine z_lload_n dL_gcd_20 rfl ?_
      refine z_lneg dL_gcd_21 ?_
      refine z_goto 26 dL_gcd_22 (by decide) ?_
      refine z_lstore dL_gcd_26 (by decide) rfl ?_
      have loop28 : ∀ (nL9 : Nat) (x y : Int), (0 ≤ x ∧ x ≤ 4611686018427387904) → (0 ≤ y ∧ y ≤ 4611686018427387904) → (Int.gcd x y = Int.gcd a b) → y.toNat < nL9 → Z mL_gcd g 28 [vl a, vx, vl b, vx, vl x, vx, vl y, vx, vx, vx] [] h Q := by
        intro nL9
        induction nL9 with
        | zero => intro x y hx hy hg hnL9; exact absurd hnL9 (Nat.not_lt_zero _)
        | succ nL9 ih28 =>
          intro x y hx hy hg hnL9
          refine z_lload dL_gcd_28 rfl ?_
          refine z_lconst (z := 0) dL_gcd_30 rfl ?_
          refine z_lcmp dL_gcd_31 (by omega) (by omega) ?_
          refine z_if_le 53 dL_gcd_32 (by decide) (icmp_r _ _) (fun c32 => ?_) (fun c32 => ?_)
          · have c32 := icmp_le.mp c32
            refine z_lload dL_gcd_53 rfl ?_
            exact z_lreturn dL_gcd_55 rfl (hQ _ _ ⟨_, rfl, (by rw [← hg, show y = 0 by omega, Int.gcd_zero_right]; omega), rfl⟩)
          · have c32 := icmp_gt.mp c32
            refine z_lload dL_gcd_35 rfl ?_
            refine z_lload dL_gcd_37 rfl ?_
            refine z_lrem dL_gcd_39 (by omega) (by omega) (by omega) ?_
            have t1 := Int.tmod_nonneg y hx.1
            have t2 := Int.tmod_lt_of_pos x (show 0 < y by omega)
            have t3 := gcd_tmod hx.1 hy.1
            refine z_lstore dL_gcd_40 (by decide) rfl ?_
            refine z_lload dL_gcd_42 rfl ?_
            refine z_lstore dL_gcd_44 (by decide) rfl ?_
            refine z_lload dL_gcd_46 rfl ?_
            refine z_lstore dL_gcd_48 (by decide) rfl ?_
            refine z_goto 28 dL_gcd_50 (by decide) ?_
            refine z_forget 8 ?_
            exact ih28 y (x.tmod y) (by omega) (by omega) (by rw [← t3]; exact hg) (by omega)
      first | exact loop28 _ a b (by omega) (by omega) rfl (Nat.lt_succ_self _) | exact loop28 _ a (-b) (by omega) (by omega) (by rw [Int.gcd_neg]) (Nat.lt_succ_self _) | exact loop28 _ (-a) b (by omega) (by omega) (by rw [Int.neg_gcd]) (Nat.lt_succ_self _) | exact loop28 _ (-a) (-b) (by omega) (by omega) (by rw [Int.neg_gcd, Int.gcd_neg]) (Nat.lt_succ_self _)
  · have c3 := icmp_lt.mp c3
    refine z_lload_n dL_gcd_6 rfl ?_
    refine z_lneg dL_gcd_7 ?_
    refine z_goto 12 dL_gcd_8 (by decide) ?_
    refine z_lstore dL_gcd_12 (by decide) rfl ?_
    refine z_lload_n dL_gcd_14 rfl ?_
    refine z_lconst (z := 0) dL_gcd_15 rfl ?_
    refine z_lcmp dL_gcd_16 (by omega) (by omega) ?_
    refine z_if_ge 25 dL_gcd_17 (by decide) (icmp_r _ _) (fun c17 => ?_) (fun c17 => ?_)
    · have c17 := icmp_ge.mp c17
      refine z_lload_n dL_gcd_25 rfl ?_
      refine z_lstore dL_gcd_26 (by decide) rfl ?_
      have loop28 : ∀ (nL9 : Nat) (x y : Int), (0 ≤ x ∧ x ≤ 4611686018427387904) → (0 ≤ y ∧ y ≤ 4611686018427387904) → (Int.gcd x y = Int.gcd a b) → y.toNat < nL9 → Z mL_gcd g 28 [vl a, vx, vl b, vx, vl x, vx, vl y, vx, vx, vx] [] h Q := by
        intro nL9
        induction nL9 with
        | zero => intro x y hx hy hg hnL9; exact absurd hnL9 (Nat.not_lt_zero _)
        | succ nL9 ih28 =>
          intro x y hx hy hg hnL9
          refine z_lload dL_gcd_28 rfl ?_
          refine z_lconst (z := 0) dL_gcd_30 rfl ?_
          refine z_lcmp dL_gcd_31 (by omega) (by omega) ?_
          refine z_if_le 53 dL_gcd_32 (by decide) (icmp_r _ _) (fun c32 => ?_) (fun c32 => ?_)
          · have c32 := icmp_le.mp c32
            refine z_lload dL_gcd_53 rfl ?_
            exact z_lreturn dL_gcd_55 rfl (hQ _ _ ⟨_, rfl, (by rw [← hg, show y = 0 by omega, Int.gcd_zero_right]; omega), rfl⟩)
          · have c32 := icmp_gt.mp c32
            refine z_lload dL_gcd_35 rfl ?_
            refine z_lload dL_gcd_37 rfl ?_
            refine z_lrem dL_gcd_39 (by omega) (by omega) (by omega) ?_
            have t1 := Int.tmod_nonneg y hx.1
            have t2 := Int.tmod_lt_of_pos x (show 0 < y by omega)
            have t3 := gcd_tmod hx.1 hy.1
            refine z_lstore dL_gcd_40 (by decide) rfl ?_
            refine z_lload dL_gcd_42 rfl ?_
            refine z_lstore dL_gcd_44 (by decide) rfl ?_
            refine z_lload dL_gcd_46 rfl ?_
            refine z_lstore dL_gcd_48 (by decide) rfl ?_
            refine z_goto 28 dL_gcd_50 (by decide) ?_
            refine z_forget 8 ?_
            exact ih28 y (x.tmod y) (by omega) (by omega) (by rw [← t3]; exact hg) (by omega)
      first | exact loop28 _ a b (by omega) (by omega) rfl (Nat.lt_succ_self _) | exact loop28 _ a (-b) (by omega) (by omega) (by rw [Int.gcd_neg]) (Nat.lt_succ_self _) | exact loop28 _ (-a) b (by omega) (by omega) (by rw [Int.neg_gcd]) (Nat.lt_succ_self _) | exact loop28 _ (-a) (-b) (by omega) (by omega) (by rw [Int.neg_gcd, Int.gcd_neg]) (Nat.lt_succ_self _)
    · have c17 := icmp_lt.mp c17
      refine z_lload_n dL_gcd_20 rfl ?_
      refine z_lneg dL_gcd_21 ?_
      refine z_goto 26 dL_gcd_22 (by decide) ?_
      refine z_lstore dL_gcd_26 (by decide) rfl ?_
      have loop28 : ∀ (nL9 : Nat) (x y : Int), (0 ≤ x ∧ x ≤ 4611686018427387904) → (0 ≤ y ∧ y ≤ 4611686018427387904) → (Int.gcd x y = Int.gcd a b) → y.toNat < nL9 → Z mL_gcd g 28 [vl a, vx, vl b, vx, vl x, vx, vl y, vx, vx, vx] [] h Q := by
        intro nL9
        induction nL9 with
        | zero => intro x y hx hy hg hnL9; exact absurd hnL9 (Nat.not_lt_zero _)
        | succ nL9 ih28 =>
          intro x y hx hy hg hnL9
          refine z_lload dL_gcd_28 rfl ?_
          refine z_lconst (z := 0) dL_gcd_30 rfl ?_
          refine z_lcmp dL_gcd_31 (by omega) (by omega) ?_
          refine z_if_le 53 dL_gcd_32 (by decide) (icmp_r _ _) (fun c32 => ?_) (fun c32 => ?_)
          · have c32 := icmp_le.mp c32
            refine z_lload dL_gcd_53 rfl ?_
            exact z_lreturn dL_gcd_55 rfl (hQ _ _ ⟨_, rfl, (by rw [← hg, show y = 0 by omega, Int.gcd_zero_right]; omega), rfl⟩)
          · have c32 := icmp_gt.mp c32
            refine z_lload dL_gcd_35 rfl ?_
            refine z_lload dL_gcd_37 rfl ?_
            refine z_lrem dL_gcd_39 (by omega) (by omega) (by omega) ?_
            have t1 := Int.tmod_nonneg y hx.1
            have t2 := Int.tmod_lt_of_pos x (show 0 < y by omega)
            have t3 := gcd_tmod hx.1 hy.1
            refine z_lstore dL_gcd_40 (by decide) rfl ?_
            refine z_lload dL_gcd_42 rfl ?_
            refine z_lstore dL_gcd_44 (by decide) rfl ?_
            refine z_lload dL_gcd_46 rfl ?_
            refine z_lstore dL_gcd_48 (by decide) rfl ?_
            refine z_goto 28 dL_gcd_50 (by decide) ?_
            refine z_forget 8 ?_
            exact ih28 y (x.tmod y) (by omega) (by omega) (by rw [← t3]; exact hg) (by omega)
      first | exact loop28 _ a b (by omega) (by omega) rfl (Nat.lt_succ_self _) | exact loop28 _ a (-b) (by omega) (by omega) (by rw [Int.gcd_neg]) (Nat.lt_succ_self _) | exact loop28 _ (-a) b (by omega) (by omega) (by rw [Int.neg_gcd]) (Nat.lt_succ_self _) | exact loop28 _ (-a) (-b) (by omega) (by omega) (by rw [Int.neg_gcd, Int.gcd_neg]) (Nat.lt_succ_self _)
set_option maxRecDepth 100000 in
set_option maxHeartbeats 4000000 in
theorem c_L_begin {g : GG} {h : HH} {σ : SG} (hE : sE σ ≤ 6) (Zc : ZE (h 47) σ) {e : Nat} (y : Bool) (he : e < sE σ) : CeI mL_begin g [vr 47, vi (ltr e y)] h (bgE σ e y) := by
  refine cn_q (lv := [vr 47, vi (ltr e y)]) tL_begin.1 rfl rfl (fun hR Q hQ => ?_)
  have l1 := ltr_r y (show e < 6 by omega)
  have l2 := ze_bg Zc (y := y) he
  refine z_iload_n dL_begin_0 rfl ?_
  refine z_if_le 14 dL_begin_1 (by decide) (by omega) (fun c1 => ?_) (fun c1 => ?_)
  · refine z_aload_n dL_begin_14 rfl ?_
    refine z_iconst dL_begin_15 ?_
    refine z_iconst dL_begin_16 ?_
    refine z_iload_n dL_begin_17 rfl ?_
    refine z_imul dL_begin_18 ?_
    refine z_isub dL_begin_19 ?_
    refine z_iaload dL_begin_20 (by decide) rfl (by omega) (by omega) (by first | decide | omega) (fun r20 => ?_)
    exact z_ireturn dL_begin_21 rfl (hQ _ _ ⟨_, rfl, (l2.2 c1), rfl⟩)
  · refine z_aload_n dL_begin_4 rfl ?_
    refine z_iconst dL_begin_5 ?_
    refine z_iconst dL_begin_6 ?_
    refine z_iload_n dL_begin_7 rfl ?_
    refine z_imul dL_begin_8 ?_
    refine z_iadd dL_begin_9 ?_
    refine z_iaload dL_begin_10 (by decide) rfl (by omega) (by omega) (by first | decide | omega) (fun r10 => ?_)
    refine z_goto 21 dL_begin_11 (by decide) ?_
    exact z_ireturn dL_begin_21 rfl (hQ _ _ ⟨_, rfl, (l2.1 c1), rfl⟩)
set_option maxRecDepth 100000 in
set_option maxHeartbeats 4000000 in
theorem c_L_end {g : GG} {h : HH} {σ : SG} (hE : sE σ ≤ 6) (Zc : ZE (h 47) σ) {e : Nat} (y : Bool) (he : e < sE σ) : CeI mL_end g [vr 47, vi (ltr e y)] h (enE σ e y) := by
  refine cn_q (lv := [vr 47, vi (ltr e y)]) tL_end.1 rfl rfl (fun hR Q hQ => ?_)
  have l1 := ltr_r y (show e < 6 by omega)
  have l2 := ze_en Zc (y := y) he
  refine z_iload_n dL_end_0 rfl ?_
  refine z_if_le 14 dL_end_1 (by decide) (by omega) (fun c1 => ?_) (fun c1 => ?_)
  · refine z_aload_n dL_end_14 rfl ?_
    refine z_iconst dL_end_15 ?_
    refine z_iconst dL_end_16 ?_
    refine z_iload_n dL_end_17 rfl ?_
    refine z_imul dL_end_18 ?_
    refine z_isub dL_end_19 ?_
    refine z_iaload dL_end_20 (by decide) rfl (by omega) (by omega) (by first | decide | omega) (fun r20 => ?_)
    exact z_ireturn dL_end_21 rfl (hQ _ _ ⟨_, rfl, (l2.2 c1), rfl⟩)
  · refine z_aload_n dL_end_4 rfl ?_
    refine z_iconst dL_end_5 ?_
    refine z_iconst dL_end_6 ?_
    refine z_iload_n dL_end_7 rfl ?_
    refine z_imul dL_end_8 ?_
    refine z_iadd dL_end_9 ?_
    refine z_iaload dL_end_10 (by decide) rfl (by omega) (by omega) (by first | decide | omega) (fun r10 => ?_)
    refine z_goto 21 dL_end_11 (by decide) ?_
    exact z_ireturn dL_end_21 rfl (hQ _ _ ⟨_, rfl, (l2.1 c1), rfl⟩)
set_option maxRecDepth 100000 in
set_option maxHeartbeats 4000000 in
theorem c_L_code {g : GG} {h : HH} {e : Nat} (y : Bool) (he : e < 26) : CeI mL_code g [vi (ltr e y)] h (cod e y) := by
  refine cn_q (lv := [vi (ltr e y)]) tL_code.1 rfl rfl (fun hR Q hQ => ?_)
  have l1 := ltr_r y he
  have l2 := ltr_le e y
  refine z_iload_n dL_code_0 rfl ?_
  refine z_if_le 11 dL_code_1 (by decide) (by omega) (fun c1 => ?_) (fun c1 => ?_)
  · refine z_bipush dL_code_11 (by decide) ?_
    refine z_iload_n dL_code_13 rfl ?_
    refine z_isub dL_code_14 ?_
    exact z_ireturn dL_code_15 rfl (hQ _ _ ⟨_, rfl, (by rw [show y = true from l2.mp c1, ltr_t]; unfold cod; simp; omega), rfl⟩)
  · refine z_bipush dL_code_4 (by decide) ?_
    refine z_iload_n dL_code_6 rfl ?_
    refine z_iadd dL_code_7 ?_
    refine z_goto 15 dL_code_8 (by decide) ?_
    exact z_ireturn dL_code_15 rfl (hQ _ _ ⟨_, rfl, (by rw [show y = false from (ltr_gt e y).mp c1, ltr_f]; unfold cod; simp; omega), rfl⟩)
set_option maxRecDepth 100000 in
set_option maxHeartbeats 4000000 in
theorem c_L_noted {g : GG} {h : HH} {k : Nat} (hk : h 47 3 = k) (h8 : k ≤ 8) : CnI mL_noted g [vr 47, vi 1] h (fun z h' => z = 1 ∧ h' = up h 47 3 ((min (k + 1) 8 : Nat) : Int)) := by
  refine cn_q (lv := [vr 47, vi 1]) tL_noted.1 rfl rfl (fun hR Q hQ => ?_)
  refine z_aload_n dL_noted_0 rfl ?_
  refine z_iconst dL_noted_1 ?_
  refine z_dup2 dL_noted_2 rfl rfl ?_
  refine z_iaload dL_noted_3 (by decide) rfl (by omega) (by omega) (by first | decide | omega) (fun r3 => ?_)
  rw [show h 47 (Int.toNat 3) = k from hk]
  refine z_aload_n dL_noted_4 rfl ?_
  refine z_iconst dL_noted_5 ?_
  refine z_iaload dL_noted_6 (by decide) rfl (by omega) (by omega) (by first | decide | omega) (fun r6 => ?_)
  rw [show h 47 (Int.toNat 3) = k from hk]
  refine z_bipush dL_noted_7 (by decide) ?_
  refine z_icmp_ge 16 dL_noted_9 (by decide) (by omega) (by omega) (fun c9 => ?_) (fun c9 => ?_)
  · have e9 : (k : Int) + 0 = ((min (k + 1) 8 : Nat) : Int) := by omega
    refine z_iconst dL_noted_16 ?_
    refine z_iadd dL_noted_17 ?_
    rw [e9]
    refine z_iastore dL_noted_18 (by decide) rfl (by omega) (by omega) (by first | decide | omega) (by omega) ?_
    refine z_iload_n dL_noted_19 rfl ?_
    exact z_zreturn dL_noted_20 rfl (by first | exact Or.inl rfl | exact Or.inr rfl | exact bi_01 _ | omega) (hQ _ _ ⟨_, rfl, ⟨rfl, rfl⟩⟩)
  · have e9 : (k : Int) + 1 = ((min (k + 1) 8 : Nat) : Int) := by omega
    refine z_iconst dL_noted_12 ?_
    refine z_goto 17 dL_noted_13 (by decide) ?_
    refine z_iadd dL_noted_17 ?_
    rw [e9]
    refine z_iastore dL_noted_18 (by decide) rfl (by omega) (by omega) (by first | decide | omega) (by omega) ?_
    refine z_iload_n dL_noted_19 rfl ?_
    exact z_zreturn dL_noted_20 rfl (by first | exact Or.inl rfl | exact Or.inr rfl | exact bi_01 _ | omega) (hQ _ _ ⟨_, rfl, ⟨rfl, rfl⟩⟩)
set_option maxRecDepth 100000 in
set_option maxHeartbeats 4000000 in
theorem c_L_others {g : GG} {h : HH} {σ : SG} (W : WF σ) (Zc : ZC (h 47) σ) (C : CC (h 48) σ) {c : Nat} (hc : c < 3) : CeI mL_others g [vr 47, vr 48, vi (c : Int)] h (nnz σ c) := by
  refine cn_q (lv := [vr 47, vr 48, vi (c : Int), vx, vx]) tL_others.1 rfl rfl (fun hR Q hQ => ?_)
  have w1 := W.1
  have w2 := W.2.1
  have w3 := W.2.2.1
  refine z_iconst dL_others_0 ?_
  refine z_istore_n dL_others_1 (by decide) rfl ?_
  refine z_iconst dL_others_2 ?_
  refine z_istore dL_others_3 (by decide) rfl ?_
  have loop5 : ∀ (nL9 : Nat) (k : Nat), (k ≤ sE σ) → sE σ - k < nL9 → Z mL_others g 5 [vr 47, vr 48, vi (c : Int), vi (sI k (nz σ c)), vi (k : Int)] [] h Q := by
    intro nL9
    induction nL9 with
    | zero => intro k hk hnL9; exact absurd hnL9 (Nat.not_lt_zero _)
    | succ nL9 ih5 =>
      intro k hk hnL9
      refine z_iload dL_others_5 rfl ?_
      refine z_aload_n dL_others_7 rfl ?_
      refine z_iconst dL_others_8 ?_
      refine z_iaload dL_others_9 (by decide) rfl (by omega) (by omega) (by first | decide | omega) (fun r9 => ?_)
      rw [show h 47 (Int.toNat 1) = sE σ from Zc.2.1]
      refine z_icmp_ge 39 dL_others_10 (by decide) (by omega) (by omega) (fun c10 => ?_) (fun c10 => ?_)
      · refine z_iload_n dL_others_39 rfl ?_
        exact z_ireturn dL_others_40 rfl (hQ _ _ ⟨_, rfl, (by unfold nnz; rw [show k = sE σ from by omega]), rfl⟩)
      · refine z_iload_n dL_others_13 rfl ?_
        refine z_aload_n dL_others_14 rfl ?_
        refine z_bipush dL_others_15 (by decide) ?_
        refine z_iload_n dL_others_17 rfl ?_
        refine z_imul dL_others_18 ?_
        refine z_iload dL_others_19 rfl ?_
        refine z_iadd dL_others_21 ?_
        refine z_iaload dL_others_22 (by decide) rfl (by omega) (by omega) (by first | decide | omega) (fun r22 => ?_)
        rw [cc_ch C hc (e := k) (by omega) (z := 6 * (c : Int) + (k : Int)) rfl]
        have w5 := W.2.2.2.2.2 c k hc (by omega)
        refine z_if_ne 30 dL_others_23 (by decide) (by omega) (fun c23 => ?_) (fun c23 => ?_)
        · refine z_iconst dL_others_30 ?_
          refine z_iadd dL_others_31 ?_
          refine z_istore_n dL_others_32 (by decide) rfl ?_
          refine z_iinc dL_others_33 rfl (by decide) rfl ?_
          refine z_goto 5 dL_others_36 (by decide) ?_
          have e1 : sI k (nz σ c) + 1 = sI (k + 1) (nz σ c) := by rw [sI_s]; unfold nz; rw [if_neg c23]
          rw [e1]
          exact ih5 (k + 1) (by omega) (by omega)
        · refine z_iconst dL_others_26 ?_
          refine z_goto 31 dL_others_27 (by decide) ?_
          refine z_iadd dL_others_31 ?_
          refine z_istore_n dL_others_32 (by decide) rfl ?_
          refine z_iinc dL_others_33 rfl (by decide) rfl ?_
          refine z_goto 5 dL_others_36 (by decide) ?_
          have e1 : sI k (nz σ c) + 0 = sI (k + 1) (nz σ c) := by rw [sI_s]; unfold nz; rw [if_pos c23]
          rw [e1]
          exact ih5 (k + 1) (by omega) (by omega)
  exact loop5 _ 0 (by omega) (Nat.lt_succ_self _)
set_option maxRecDepth 100000 in
set_option maxHeartbeats 4000000 in
theorem c_L_prime {g : GG} {h : HH} {k : Nat} (hk : k < 5) : CeI mL_prime g [vi (k : Int)] h (pr5 k) := by
  refine cn_q (lv := [vi (k : Int)]) tL_prime.1 rfl rfl (fun hR Q hQ => ?_)
  refine z_iload_n dL_prime_0 rfl ?_
  refine z_if_ne 8 dL_prime_1 (by decide) (by omega) (fun c1 => ?_) (fun c1 => ?_)
  · refine z_iload_n dL_prime_8 rfl ?_
    refine z_iconst dL_prime_9 ?_
    refine z_icmp_ge 19 dL_prime_10 (by decide) (by omega) (by omega) (fun c10 => ?_) (fun c10 => ?_)
    · refine z_iconst dL_prime_19 ?_
      refine z_iload_n dL_prime_20 rfl ?_
      refine z_imul dL_prime_21 ?_
      refine z_iconst dL_prime_22 ?_
      refine z_isub dL_prime_23 ?_
      exact z_ireturn dL_prime_24 rfl (hQ _ _ ⟨_, rfl, (by unfold pr5; first | (rw [if_pos (by omega)]; done) | (rw [if_neg (by omega), if_pos (by omega)]; done) | rw [if_neg (by omega), if_neg (by omega)]), rfl⟩)
    · refine z_iload_n dL_prime_13 rfl ?_
      refine z_iconst dL_prime_14 ?_
      refine z_iadd dL_prime_15 ?_
      refine z_goto 24 dL_prime_16 (by decide) ?_
      exact z_ireturn dL_prime_24 rfl (hQ _ _ ⟨_, rfl, (by unfold pr5; first | (rw [if_pos (by omega)]; done) | (rw [if_neg (by omega), if_pos (by omega)]; done) | rw [if_neg (by omega), if_neg (by omega)]), rfl⟩)
  · refine z_iconst dL_prime_4 ?_
    refine z_goto 24 dL_prime_5 (by decide) ?_
    exact z_ireturn dL_prime_24 rfl (hQ _ _ ⟨_, rfl, (by unfold pr5; first | (rw [if_pos (by omega)]; done) | (rw [if_neg (by omega), if_pos (by omega)]; done) | rw [if_neg (by omega), if_neg (by omega)]), rfl⟩)
set_option maxRecDepth 100000 in
set_option maxHeartbeats 4000000 in
theorem c_L_near0 {g : GG} {h : HH} {σ : SG} (W : WF σ) (Zc : ZC (h 47) σ) {i j : Nat} (hi : i < sP σ) (hj : j < sP σ) : CeI mL_near g [vr 47, vi 0, vi (i : Int), vi (j : Int)] h (near0 σ i j) := by
  refine cn_q (lv := [vr 47, vi 0, vi (i : Int), vi (j : Int), vx, vx]) tL_near.1 rfl rfl (fun hR Q hQ => ?_)
  have w1 := W.1
  have w2 := W.2.1
  have w3 := W.2.2.1
  refine z_iconst dL_near_0 ?_
  refine z_istore dL_near_1 (by decide) rfl ?_
  refine z_iconst dL_near_3 ?_
  refine z_istore dL_near_4 (by decide) rfl ?_
  have loop6 : ∀ (nL9 : Nat) (k : Nat), (k ≤ sE σ) → sE σ - k < nL9 → Z mL_near g 6 [vr 47, vi 0, vi (i : Int), vi (j : Int), vi (sI k (nr0 σ i j)), vi (k : Int)] [] h Q := by
    intro nL9
    induction nL9 with
    | zero => intro k hk hnL9; exact absurd hnL9 (Nat.not_lt_zero _)
    | succ nL9 ih6 =>
      intro k hk hnL9
      refine z_iload dL_near_6 rfl ?_
      refine z_iload_n dL_near_8 rfl ?_
      refine z_if_ne 18 dL_near_9 (by decide) (by omega) (fun c9 => ?_) (fun c9 => ?_)
      · omega
      · refine z_aload_n dL_near_12 rfl ?_
        refine z_iconst dL_near_13 ?_
        refine z_iaload dL_near_14 (by decide) rfl (by omega) (by omega) (by first | decide | omega) (fun r14 => ?_)
        rw [show h 47 (Int.toNat 1) = sE σ from Zc.2.1]
        refine z_goto 32 dL_near_15 (by decide) ?_
        refine z_icmp_ge 127 dL_near_32 (by decide) (by omega) (by omega) (fun c32 => ?_) (fun c32 => ?_)
        · refine z_iload dL_near_127 rfl ?_
          exact z_ireturn dL_near_129 rfl (hQ _ _ ⟨_, rfl, (by unfold near0; rw [show k = sE σ from by omega]), rfl⟩)
        · refine z_iload dL_near_35 rfl ?_
          refine z_iload_n dL_near_37 rfl ?_
          refine z_if_ne 69 dL_near_38 (by decide) (by omega) (fun c38 => ?_) (fun c38 => ?_)
          · omega
          · refine z_aload_n dL_near_41 rfl ?_
            refine z_iload_n dL_near_42 rfl ?_
            refine z_iload dL_near_43 rfl ?_
            refine z_callS_eI (M := mL_near) [_, _, _] tL_one kL_9 dL_near_45 ⟨by decide, by decide⟩ rfl (Nat.le_of_ble_eq_true rfl) rfl (c_L_one W Zc (p := i) (e := k) (by omega) (by omega)) ?_
            refine z_aload_n dL_near_48 rfl ?_
            refine z_iload_n dL_near_49 rfl ?_
            refine z_iload dL_near_50 rfl ?_
            refine z_callS_eI (M := mL_near) [_, _, _] tL_one kL_9 dL_near_52 ⟨by decide, by decide⟩ rfl (Nat.le_of_ble_eq_true rfl) rfl (c_L_one W Zc (p := j) (e := k) (by omega) (by omega)) ?_
            refine z_imul dL_near_55 ?_
            refine z_aload_n dL_near_56 rfl ?_
            refine z_bipush dL_near_57 (by decide) ?_
            refine z_iconst dL_near_59 ?_
            refine z_iload dL_near_60 rfl ?_
            refine z_imul dL_near_62 ?_
            refine z_iadd dL_near_63 ?_
            refine z_iaload dL_near_64 (by decide) rfl (by omega) (by omega) (by first | decide | omega) (fun r64 => ?_)
            rw [zc_ew Zc (e := k) (by omega) (z := 6 + 3 * (k : Int)) rfl]
            refine z_imul dL_near_65 ?_
            refine z_goto 118 dL_near_66 (by decide) ?_
            refine z_iadd dL_near_118 ?_
            refine z_istore dL_near_119 (by decide) rfl ?_
            refine z_iinc dL_near_121 rfl (by decide) rfl ?_
            refine z_goto 6 dL_near_124 (by decide) ?_
            have e1 : sI k (nr0 σ i j) + ent1 σ i k * ent1 σ j k * (sew σ k : Int) = sI (k + 1) (nr0 σ i j) := by rw [sI_s]; unfold nr0; first | rfl | rw [Int.mul_right_comm]
            rw [e1]
            exact ih6 (k + 1) (by omega) (by omega)
  exact loop6 _ 0 (by omega) (Nat.lt_succ_self _)
set_option maxRecDepth 100000 in
set_option maxHeartbeats 4000000 in
theorem c_L_near1 {g : GG} {h : HH} {σ : SG} (W : WF σ) (Zc : ZC (h 47) σ) {i j : Nat} (hi : i < sE σ) (hj : j < sE σ) : CeI mL_near g [vr 47, vi 1, vi (i : Int), vi (j : Int)] h (near1 σ i j) := by
  refine cn_q (lv := [vr 47, vi 1, vi (i : Int), vi (j : Int), vx, vx]) tL_near.1 rfl rfl (fun hR Q hQ => ?_)
  have w1 := W.1
  have w2 := W.2.1
  have w3 := W.2.2.1
  refine z_iconst dL_near_0 ?_
  refine z_istore dL_near_1 (by decide) rfl ?_
  refine z_iconst dL_near_3 ?_
  refine z_istore dL_near_4 (by decide) rfl ?_
  have loop6 : ∀ (nL9 : Nat) (k : Nat), (k ≤ sP σ) → sP σ - k < nL9 → Z mL_near g 6 [vr 47, vi 1, vi (i : Int), vi (j : Int), vi (sI k (nr1 σ i j)), vi (k : Int)] [] h Q := by
    intro nL9
    induction nL9 with
    | zero => intro k hk hnL9; exact absurd hnL9 (Nat.not_lt_zero _)
    | succ nL9 ih6 =>
      intro k hk hnL9
      refine z_iload dL_near_6 rfl ?_
      refine z_iload_n dL_near_8 rfl ?_
      refine z_if_ne 18 dL_near_9 (by decide) (by omega) (fun c9 => ?_) (fun c9 => ?_)
      · refine z_iload_n dL_near_18 rfl ?_
        refine z_iconst dL_near_19 ?_
        refine z_icmp_ne 29 dL_near_20 (by decide) (by omega) (by omega) (fun c20 => ?_) (fun c20 => ?_)
        · omega
        · refine z_aload_n dL_near_23 rfl ?_
          refine z_iconst dL_near_24 ?_
          refine z_iaload dL_near_25 (by decide) rfl (by omega) (by omega) (by first | decide | omega) (fun r25 => ?_)
          rw [show h 47 (Int.toNat 0) = sP σ from Zc.1]
          refine z_goto 32 dL_near_26 (by decide) ?_
          refine z_icmp_ge 127 dL_near_32 (by decide) (by omega) (by omega) (fun c32 => ?_) (fun c32 => ?_)
          · refine z_iload dL_near_127 rfl ?_
            exact z_ireturn dL_near_129 rfl (hQ _ _ ⟨_, rfl, (by unfold near1; rw [show k = sP σ from by omega]), rfl⟩)
          · refine z_iload dL_near_35 rfl ?_
            refine z_iload_n dL_near_37 rfl ?_
            refine z_if_ne 69 dL_near_38 (by decide) (by omega) (fun c38 => ?_) (fun c38 => ?_)
            · refine z_iload_n dL_near_69 rfl ?_
              refine z_iconst dL_near_70 ?_
              refine z_icmp_ne 92 dL_near_71 (by decide) (by omega) (by omega) (fun c71 => ?_) (fun c71 => ?_)
              · omega
              · refine z_aload_n dL_near_74 rfl ?_
                refine z_iload dL_near_75 rfl ?_
                refine z_iload_n dL_near_77 rfl ?_
                refine z_callS_eI (M := mL_near) [_, _, _] tL_one kL_9 dL_near_78 ⟨by decide, by decide⟩ rfl (Nat.le_of_ble_eq_true rfl) rfl (c_L_one W Zc (p := k) (e := i) (by omega) (by omega)) ?_
                refine z_aload_n dL_near_81 rfl ?_
                refine z_iload dL_near_82 rfl ?_
                refine z_iload_n dL_near_84 rfl ?_
                refine z_callS_eI (M := mL_near) [_, _, _] tL_one kL_9 dL_near_85 ⟨by decide, by decide⟩ rfl (Nat.le_of_ble_eq_true rfl) rfl (c_L_one W Zc (p := k) (e := j) (by omega) (by omega)) ?_
                refine z_imul dL_near_88 ?_
                refine z_goto 118 dL_near_89 (by decide) ?_
                refine z_iadd dL_near_118 ?_
                refine z_istore dL_near_119 (by decide) rfl ?_
                refine z_iinc dL_near_121 rfl (by decide) rfl ?_
                refine z_goto 6 dL_near_124 (by decide) ?_
                have e1 : sI k (nr1 σ i j) + ent1 σ k i * ent1 σ k j = sI (k + 1) (nr1 σ i j) := by rw [sI_s]; unfold nr1; first | rfl | rw [Int.mul_right_comm]
                rw [e1]
                exact ih6 (k + 1) (by omega) (by omega)
            · omega
      · omega
  exact loop6 _ 0 (by omega) (Nat.lt_succ_self _)
set_option maxRecDepth 100000 in
set_option maxHeartbeats 4000000 in
theorem c_L_near2 {g : GG} {h : HH} {σ : SG} (W : WF σ) (Zc : ZC (h 47) σ) {i j : Nat} (hi : i < sE σ) (hj : j < sE σ) : CeI mL_near g [vr 47, vi 2, vi (i : Int), vi (j : Int)] h (near2 σ i j) := by
  refine cn_q (lv := [vr 47, vi 2, vi (i : Int), vi (j : Int), vx, vx]) tL_near.1 rfl rfl (fun hR Q hQ => ?_)
  have w1 := W.1
  have w2 := W.2.1
  have w3 := W.2.2.1
  refine z_iconst dL_near_0 ?_
  refine z_istore dL_near_1 (by decide) rfl ?_
  refine z_iconst dL_near_3 ?_
  refine z_istore dL_near_4 (by decide) rfl ?_
  have loop6 : ∀ (nL9 : Nat) (k : Nat), (k ≤ sF σ) → sF σ - k < nL9 → Z mL_near g 6 [vr 47, vi 2, vi (i : Int), vi (j : Int), vi (sI k (nr2 σ i j)), vi (k : Int)] [] h Q := by
    intro nL9
    induction nL9 with
    | zero => intro k hk hnL9; exact absurd hnL9 (Nat.not_lt_zero _)
    | succ nL9 ih6 =>
      intro k hk hnL9
      refine z_iload dL_near_6 rfl ?_
      refine z_iload_n dL_near_8 rfl ?_
      refine z_if_ne 18 dL_near_9 (by decide) (by omega) (fun c9 => ?_) (fun c9 => ?_)
      · refine z_iload_n dL_near_18 rfl ?_
        refine z_iconst dL_near_19 ?_
        refine z_icmp_ne 29 dL_near_20 (by decide) (by omega) (by omega) (fun c20 => ?_) (fun c20 => ?_)
        · refine z_aload_n dL_near_29 rfl ?_
          refine z_iconst dL_near_30 ?_
          refine z_iaload dL_near_31 (by decide) rfl (by omega) (by omega) (by first | decide | omega) (fun r31 => ?_)
          rw [show h 47 (Int.toNat 2) = sF σ from Zc.2.2.1]
          refine z_icmp_ge 127 dL_near_32 (by decide) (by omega) (by omega) (fun c32 => ?_) (fun c32 => ?_)
          · refine z_iload dL_near_127 rfl ?_
            exact z_ireturn dL_near_129 rfl (hQ _ _ ⟨_, rfl, (by unfold near2; rw [show k = sF σ from by omega]), rfl⟩)
          · refine z_iload dL_near_35 rfl ?_
            refine z_iload_n dL_near_37 rfl ?_
            refine z_if_ne 69 dL_near_38 (by decide) (by omega) (fun c38 => ?_) (fun c38 => ?_)
            · refine z_iload_n dL_near_69 rfl ?_
              refine z_iconst dL_near_70 ?_
              refine z_icmp_ne 92 dL_near_71 (by decide) (by omega) (by omega) (fun c71 => ?_) (fun c71 => ?_)
              · refine z_aload_n dL_near_92 rfl ?_
                refine z_iload_n dL_near_93 rfl ?_
                refine z_iload dL_near_94 rfl ?_
                refine z_callS_eI (M := mL_near) [_, _, _] tL_two kL_15 dL_near_96 ⟨by decide, by decide⟩ rfl (Nat.le_of_ble_eq_true rfl) rfl (c_L_two W Zc (e := i) (f := k) (by omega) (by omega)) ?_
                refine z_aload_n dL_near_99 rfl ?_
                refine z_iload_n dL_near_100 rfl ?_
                refine z_iload dL_near_101 rfl ?_
                refine z_callS_eI (M := mL_near) [_, _, _] tL_two kL_15 dL_near_103 ⟨by decide, by decide⟩ rfl (Nat.le_of_ble_eq_true rfl) rfl (c_L_two W Zc (e := j) (f := k) (by omega) (by omega)) ?_
                refine z_imul dL_near_106 ?_
                refine z_aload_n dL_near_107 rfl ?_
                refine z_bipush dL_near_108 (by decide) ?_
                refine z_bipush dL_near_110 (by decide) ?_
                refine z_iload dL_near_112 rfl ?_
                refine z_imul dL_near_114 ?_
                refine z_iadd dL_near_115 ?_
                refine z_iaload dL_near_116 (by decide) rfl (by omega) (by omega) (by first | decide | omega) (fun r116 => ?_)
                rw [zc_fw Zc (k := k) (by omega) (z := 22 + 6 * (k : Int)) rfl]
                refine z_imul dL_near_117 ?_
                refine z_iadd dL_near_118 ?_
                refine z_istore dL_near_119 (by decide) rfl ?_
                refine z_iinc dL_near_121 rfl (by decide) rfl ?_
                refine z_goto 6 dL_near_124 (by decide) ?_
                have e1 : sI k (nr2 σ i j) + ent2 σ i k * ent2 σ j k * (sfw σ k : Int) = sI (k + 1) (nr2 σ i j) := by rw [sI_s]; unfold nr2; first | rfl | rw [Int.mul_right_comm]
                rw [e1]
                exact ih6 (k + 1) (by omega) (by omega)
              · omega
            · omega
        · omega
      · omega
  exact loop6 _ 0 (by omega) (Nat.lt_succ_self _)

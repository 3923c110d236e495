set_option maxRecDepth 100000 in
set_option maxHeartbeats 4000000 in
theorem pr_restore {g : GG} {h : HH} (J : JJ h) {k : Int} (hk : R32 k) : PrX vi mX5_restore mX6_restore g [vi k] h := by
  obtain ⟨S, ok, j, m⟩ := J
  by_cases q : 0 ≤ k ∧ k < 2
  · obtain ⟨n, rfl⟩ : ∃ n : Nat, k = n := ⟨k.toNat, by omega⟩
    have n2 : n < 2 := by omega
    rcases hI : S.im n with _ | σ'
    · exact prEI ok j m (c_X5_restoreS n2 (by rw [← hI]; exact j.2.2.1 n n2)) fun h1 m1 => c_X6_restoreS n2 (by have := m1.2.2.1 n n2; rw [hI] at this; exact this)
    · have i3 := j.2.2.1 n n2
      rw [hI] at i3
      have Wσ : WF σ' := i3.2.1
      have im : ∀ h1, JM h1 S → h1 52 n = 1 ∧ RM (fun j => h1 51 (63 * n + j)) σ' ∧ WF σ' := fun h1 m1 => by
        have := m1.2.2.1 n n2
        rw [hI] at this
        exact this
      refine prX (mk := vi) (S := S) (S' := (σ', [], S.n, S.tk, S.lf, S.im)) (P2 := fun h1 z h' => z = 1 ∧ h' = up (cpB h1 51 (63 * n) 48 0 63) 47 3 0) (fun z => z = 1) (fun z => z = 1) m ⟨Wσ, ok.2⟩ (c_X5_restore1 n2 i3) (fun z h1 a => ⟨a.1, ?_⟩) (fun h1 m1 => c_X6_restore1 n2 (im h1 m1).1) (fun h1 w h2 m1 a => ⟨a.1, ?_⟩) (fun z w a b => by rw [a, b])
      · obtain ⟨_, a1, a2, a3, a4⟩ := a
        obtain ⟨j1, j2, j3, j4, j5, j6, j7⟩ := j
        refine ⟨⟨a1, RA_nil j2 a2 (a3 8 (by decide)), fun i hi => ?_, ?_, ?_, ?_, ?_⟩, fun i hi => a4 i (by omega) (by omega)⟩
        · rw [a4 _ (by omega) (by omega)]; exact j3 i hi
        · rw [a4 5 (by decide) (by decide)]; exact j4
        · unfold TB; rw [a4 6 (by decide) (by decide)]; exact j5
        · rw [tkT_fr (by rw [a4 5 (by decide) (by decide)]) (a4 6 (by decide) (by decide))]; exact j6
        · rw [a3 10 (by decide)]; exact j7
      · obtain ⟨_, rfl⟩ := a
        obtain ⟨i1, i2, _⟩ := im h1 m1
        obtain ⟨j1, j2, j3, j4, j5, j6⟩ := m1
        have e : ∀ i, i ≠ 47 → i ≠ 48 → up (cpB h1 51 (63 * n) 48 0 63) 47 3 0 i = h1 i := fun i i1 i2 => by rw [up_ne _ _ _ i1]; unfold cpB; rw [setc_ne _ _ i2]
        have e48 : up (cpB h1 51 (63 * n) 48 0 63) 47 3 0 48 = fun j => if 0 ≤ j ∧ j < 0 + 63 then h1 51 (63 * n + (j - 0)) else h1 48 j := by rw [up_ne _ _ _ (by decide)]; unfold cpB; rw [setc_at]
        have e47 : ∀ b, b ≠ 3 → up (cpB h1 51 (63 * n) 48 0 63) 47 3 0 47 b = h1 47 b := fun b hb => by rw [up_at]; unfold cpB; rw [setc_ne _ _ (by decide)]; exact if_neg hb
        refine ⟨⟨?_, RPast_nil (up_same _ _ _ _), fun i hi => IM_fr (e 51 (by decide) (by decide)) (e 52 (by decide) (by decide)) (j3 i hi), ?_, ?_, ?_⟩, fun i hi => e i (by omega) (by omega)⟩
        · rw [e48]
          refine RM_congr Wσ.wb i2 fun j hj => ?_
          show (if 0 ≤ j ∧ j < 0 + 63 then h1 51 (63 * n + (j - 0)) else h1 48 j) = h1 51 (63 * n + j)
          rw [if_pos (by omega), Nat.sub_zero]
        · rw [e47 7 (by decide)]; exact j4
        · rw [mtk_fr (e47 7 (by decide)) (e 53 (by decide) (by decide))]; exact j5
        · rw [e47 14 (by decide)]; exact j6
  · exact prEI ok j m (c_X5_restoreO hk q) fun h1 m1 => c_X6_restoreO hk q
set_option maxRecDepth 100000 in
set_option maxHeartbeats 4000000 in
theorem c_X6_countN {g : GG} {h : HH} {w : Int} (hw : R32 w) (hn : w < 0 ∨ 4 < w) : CeI mX6_count g [vr 47, vi w] h kBAD := by
  refine cn_q (lv := [vr 47, vi w]) tX6_count.1 rfl rfl (fun hR Q hQ => ?_)
  refine z_iload_n dX6_count_0 rfl ?_
  refine z_tswOut 53 dX6_count_1 hw hn (by decide) ?_
  refine z_ldc (-1000001) dX6_count_53 qX6_218 rfl ?_
  exact z_ireturn dX6_count_55 rfl (hQ _ _ ⟨_, rfl, rfl, rfl⟩)
set_option maxRecDepth 100000 in
set_option maxHeartbeats 4000000 in
theorem pr_count {g : GG} {h : HH} (J : JJ h) {w : Int} (hw : R32 w) : PrX vi mX5_count mX6_count g [vi w] h := by
  obtain ⟨S, ok, j, m⟩ := J
  have W := ok.1
  have c1 := c_X5_count (g := g) W j.1 j.2.2.2.1 j.2.1.2.1 hw
  by_cases w0 : w = 0
  · subst w0
    exact prEI (z := (sP S.σ : Int)) ok j m c1 fun h1 m1 => c_X6_count0 m1.1
  by_cases w1 : w = 1
  · subst w1
    exact prEI (z := (sE S.σ : Int)) ok j m c1 fun h1 m1 => c_X6_count1 m1.1
  by_cases w2 : w = 2
  · subst w2
    exact prEI (z := (sF S.σ : Int)) ok j m c1 fun h1 m1 => c_X6_count2 m1.1
  by_cases w3 : w = 3
  · subst w3
    exact prEI (z := (S.as.length : Int)) ok j m c1 fun h1 m1 => by have e := m1.2.1.2.1; rw [← e]; exact c_X6_count3 m1.1
  by_cases w4 : w = 4
  · subst w4
    exact prEI (z := (S.n : Int)) ok j m c1 fun h1 m1 => by have e := m1.2.2.2.1; rw [← e]; exact c_X6_count4 m1.1
  rw [if_neg w0, if_neg w1, if_neg w2, if_neg w3, if_neg w4] at c1
  exact prEI ok j m c1 fun h1 m1 => c_X6_countN hw (by omega)
theorem as_u {r : Prop} {c : Nat} {z w : Int} (h1 : (r ∧ z = c) ∨ (¬ r ∧ z = kNONE)) (h2 : (r ∧ w = c) ∨ (¬ r ∧ w = kNONE)) : w = z := by
  rcases h1 with ⟨a, b⟩ | ⟨a, b⟩ <;> rcases h2 with ⟨a', b'⟩ | ⟨a', b'⟩
  · rw [b, b']
  · exact absurd a a'
  · exact absurd a' a
  · rw [b, b']
theorem hc_0 {g : GG} {h : HH} {σ : SG} (C : RC (h 2) σ) {c : Int} (hc : R32 c) : CeI mX0_hasCell g [vr 1, vi 0, vi c] h (bi (0 ≤ c ∧ c < (sP σ : Int))) := by
  have := c_X0_hasCell (g := g) (h := h) isC1 r32_0 hc
  rw [if_pos (by decide), show sl h 1 0 = _ from (sl_n (h := h) (o := 1) (i := 0) (by decide) rfl).trans C.1] at this
  exact this
theorem hc_1 {g : GG} {h : HH} {σ : SG} (C : RC (h 2) σ) {c : Int} (hc : R32 c) : CeI mX0_hasCell g [vr 1, vi 1, vi c] h (bi (0 ≤ c ∧ c < (sE σ : Int))) := by
  have := c_X0_hasCell (g := g) (h := h) isC1 (d := 1) (by decide) hc
  rw [if_pos (by decide), show sl h 1 1 = _ from (sl_n (h := h) (o := 1) (i := 1) (by decide) rfl).trans C.2.1] at this
  exact this
theorem hc_2 {g : GG} {h : HH} {σ : SG} (C : RC (h 2) σ) {c : Int} (hc : R32 c) : CeI mX0_hasCell g [vr 1, vi 2, vi c] h (bi (0 ≤ c ∧ c < (sF σ : Int))) := by
  have := c_X0_hasCell (g := g) (h := h) isC1 (d := 2) (by decide) hc
  rw [if_pos (by decide), show sl h 1 2 = _ from (sl_n (h := h) (o := 1) (i := 2) (by decide) rfl).trans C.2.2.1] at this
  exact this
theorem hc_N {g : GG} {h : HH} {d c : Int} (hd : R32 d) (hn : ¬ (0 ≤ d ∧ d ≤ 2)) (hc : R32 c) : CeI mX0_hasCell g [vr 1, vi d, vi c] h (bi (0 ≤ c ∧ c < (0 : Int))) := by
  have := c_X0_hasCell (g := g) (h := h) isC1 hd hc
  rw [if_neg hn] at this
  exact this
set_option maxRecDepth 100000 in
set_option maxHeartbeats 4000000 in
theorem pr_as {g : GG} {h : HH} (J : JJ h) {d c k : Int} (hd : R32 d) (hc : R32 c) (hk : R32 k) : PrX vi mX5_as mX6_as g [vi d, vi c, vi k] h := by
  obtain ⟨S, ok, j, m⟩ := J
  have W := ok.1
  have w1 := W.1
  have w2 := W.2.1
  have w3 := W.2.2.1
  by_cases d0 : d = 0
  · subst d0
    by_cases q : k < 0 ∨ 5 < k
    · exact prEI ok j m (c_X5_asK W j.1 hd hc hk q (hc_0 j.1 hc)) fun h1 m1 => c_X6_asK W m1.1 hd hc hk q (c_X6_isCell0 W.wb m1.1 hc)
    by_cases r : 0 ≤ c ∧ c < (sP S.σ : Int)
    · obtain ⟨cn, rfl⟩ : ∃ n : Nat, c = n := ⟨c.toNat, by omega⟩
      have c1 : cn < sP S.σ := by omega
      have c6 : cn < 6 := by omega
      rcases (show k = 0 ∨ k = 1 ∨ k = 2 ∨ k = 3 ∨ k = 4 ∨ k = 5 by omega) with rfl | rfl | rfl | rfl | rfl | rfl
      · exact prPI ok j m (c_X5_as1 W j.1 hd c6 (by decide) (hc_0 j.1 hc) r (c_X0_kind0 isC1 W j.1 hd c6)) (fun h1 m1 => c_X6_as00 W m1.1 c1) (fun z w a b => as_u a b)
      · exact prPI ok j m (c_X5_as1 W j.1 hd c6 (by decide) (hc_0 j.1 hc) r (c_X0_kind1 isC1 W j.1 hd c6)) (fun h1 m1 => c_X6_as01 W m1.1 c1) (fun z w a b => as_u a b)
      · exact prPI ok j m (c_X5_as1 W j.1 hd c6 (by decide) (hc_0 j.1 hc) r (c_X0_kind2 isC1 W j.1 hd c6)) (fun h1 m1 => c_X6_as02 W m1.1 c1) (fun z w a b => as_u a b)
      · exact prPI ok j m (c_X5_as1 W j.1 hd c6 (by decide) (hc_0 j.1 hc) r (c_X0_kind3 isC1 W j.1 hd c6 (fun z => by omega))) (fun h1 m1 => c_X6_as03 W m1.1 c1) (fun z w a b => as_u a b)
      · exact prPI ok j m (c_X5_as1 W j.1 hd c6 (by decide) (hc_0 j.1 hc) r (c_X0_kind4 isC1 W j.1 hd c6)) (fun h1 m1 => c_X6_as04 W m1.1 c1) (fun z w a b => as_u a b)
      · exact prPI ok j m (c_X5_as1 W j.1 hd c6 (by decide) (hc_0 j.1 hc) r (c_X0_kind5 isC1 W j.1 hd c6 (fun z => by omega))) (fun h1 m1 => c_X6_as05 W m1.1 c1) (fun z w a b => as_u a b)
    · exact prEI ok j m (c_X5_asO W j.1 hd hc hk (hc_0 j.1 hc) r) fun h1 m1 => c_X6_asO W m1.1 hd hc hk (c_X6_isCell0 W.wb m1.1 hc) r
  by_cases d1 : d = 1
  · subst d1
    by_cases q : k < 0 ∨ 5 < k
    · exact prEI ok j m (c_X5_asK W j.1 hd hc hk q (hc_1 j.1 hc)) fun h1 m1 => c_X6_asK W m1.1 hd hc hk q (c_X6_isCell1 W.wb m1.1 hc)
    by_cases r : 0 ≤ c ∧ c < (sE S.σ : Int)
    · obtain ⟨cn, rfl⟩ : ∃ n : Nat, c = n := ⟨c.toNat, by omega⟩
      have c1 : cn < sE S.σ := by omega
      have c6 : cn < 6 := by omega
      rcases (show k = 0 ∨ k = 1 ∨ k = 2 ∨ k = 3 ∨ k = 4 ∨ k = 5 by omega) with rfl | rfl | rfl | rfl | rfl | rfl
      · exact prPI ok j m (c_X5_as1 W j.1 hd c6 (by decide) (hc_1 j.1 hc) r (c_X0_kind0 isC1 W j.1 hd c6)) (fun h1 m1 => c_X6_as10 W m1.1 c1) (fun z w a b => as_u a b)
      · exact prPI ok j m (c_X5_as1 W j.1 hd c6 (by decide) (hc_1 j.1 hc) r (c_X0_kind1 isC1 W j.1 hd c6)) (fun h1 m1 => c_X6_as11 W m1.1 c1) (fun z w a b => as_u a b)
      · exact prPI ok j m (c_X5_as1 W j.1 hd c6 (by decide) (hc_1 j.1 hc) r (c_X0_kind2 isC1 W j.1 hd c6)) (fun h1 m1 => c_X6_as12 W m1.1 c1) (fun z w a b => as_u a b)
      · exact prPI ok j m (c_X5_as1 W j.1 hd c6 (by decide) (hc_1 j.1 hc) r (c_X0_kind3 isC1 W j.1 hd c6 (fun z => by omega))) (fun h1 m1 => c_X6_as13 W m1.1 c1) (fun z w a b => as_u a b)
      · exact prPI ok j m (c_X5_as1 W j.1 hd c6 (by decide) (hc_1 j.1 hc) r (c_X0_kind4 isC1 W j.1 hd c6)) (fun h1 m1 => c_X6_as14 W m1.1 c1) (fun z w a b => as_u a b)
      · exact prPI ok j m (c_X5_as1 W j.1 hd c6 (by decide) (hc_1 j.1 hc) r (c_X0_kind5 isC1 W j.1 hd c6 (fun z => by omega))) (fun h1 m1 => c_X6_as15 W m1.1 c1) (fun z w a b => as_u a b)
    · exact prEI ok j m (c_X5_asO W j.1 hd hc hk (hc_1 j.1 hc) r) fun h1 m1 => c_X6_asO W m1.1 hd hc hk (c_X6_isCell1 W.wb m1.1 hc) r
  by_cases d2 : d = 2
  · subst d2
    by_cases q : k < 0 ∨ 5 < k
    · exact prEI ok j m (c_X5_asK W j.1 hd hc hk q (hc_2 j.1 hc)) fun h1 m1 => c_X6_asK W m1.1 hd hc hk q (c_X6_isCell2 W.wb m1.1 hc)
    by_cases r : 0 ≤ c ∧ c < (sF S.σ : Int)
    · obtain ⟨cn, rfl⟩ : ∃ n : Nat, c = n := ⟨c.toNat, by omega⟩
      have c1 : cn < sF S.σ := by omega
      have c6 : cn < 6 := by omega
      rcases (show k = 0 ∨ k = 1 ∨ k = 2 ∨ k = 3 ∨ k = 4 ∨ k = 5 by omega) with rfl | rfl | rfl | rfl | rfl | rfl
      · exact prPI ok j m (c_X5_as1 W j.1 hd c6 (by decide) (hc_2 j.1 hc) r (c_X0_kind0 isC1 W j.1 hd c6)) (fun h1 m1 => c_X6_as20 W m1.1 c1) (fun z w a b => as_u a b)
      · exact prPI ok j m (c_X5_as1 W j.1 hd c6 (by decide) (hc_2 j.1 hc) r (c_X0_kind1 isC1 W j.1 hd c6)) (fun h1 m1 => c_X6_as21 W m1.1 c1) (fun z w a b => as_u a b)
      · exact prPI ok j m (c_X5_as1 W j.1 hd c6 (by decide) (hc_2 j.1 hc) r (c_X0_kind2 isC1 W j.1 hd c6)) (fun h1 m1 => c_X6_as22 W m1.1 c1) (fun z w a b => as_u a b)
      · exact prPI ok j m (c_X5_as1 W j.1 hd c6 (by decide) (hc_2 j.1 hc) r (c_X0_kind3 isC1 W j.1 hd c6 (fun z => by omega))) (fun h1 m1 => c_X6_as23 W m1.1 c1) (fun z w a b => as_u a b)
      · exact prPI ok j m (c_X5_as1 W j.1 hd c6 (by decide) (hc_2 j.1 hc) r (c_X0_kind4 isC1 W j.1 hd c6)) (fun h1 m1 => c_X6_as24 W m1.1 c1) (fun z w a b => as_u a b)
      · exact prPI ok j m (c_X5_as1 W j.1 hd c6 (by decide) (hc_2 j.1 hc) r (c_X0_kind5 isC1 W j.1 hd c6 (fun z => by omega))) (fun h1 m1 => c_X6_as25 W m1.1 c1) (fun z w a b => as_u a b)
    · exact prEI ok j m (c_X5_asO W j.1 hd hc hk (hc_2 j.1 hc) r) fun h1 m1 => c_X6_asO W m1.1 hd hc hk (c_X6_isCell2 W.wb m1.1 hc) r
  have dn : ¬ (0 ≤ d ∧ d ≤ 2) := by omega
  exact prEI ok j m (c_X5_asO W j.1 hd hc hk (hc_N hd dn hc) (by omega)) fun h1 m1 => c_X6_asO W m1.1 hd hc hk (c_X6_isCellN W.wb m1.1 hd dn hc) id

/-! PAIRS of calls, one by one -/
set_option maxRecDepth 100000 in
set_option maxHeartbeats 4000000 in
theorem pr_weigh {g : GG} {h : HH} (J : JJ h) {d c w : Int} (hd : R32 d) (hc : R32 c) (hw : R32 w) : PrX vi mX5_weigh mX6_weigh g [vi d, vi c, vi w] h := by
  obtain ⟨S, ok, j, m⟩ := J
  have W := ok.1
  by_cases d1 : d = 1
  · subst d1
    by_cases q : 0 ≤ c ∧ c < sE S.σ ∧ 1 ≤ w ∧ w ≤ 3
    · obtain ⟨cn, rfl⟩ : ∃ n : Nat, c = n := ⟨c.toNat, by omega⟩
      obtain ⟨wn, rfl⟩ : ∃ n : Nat, w = n := ⟨w.toNat, by omega⟩
      exact prA ok j m (WF_setWE W (by omega)) (c_X5_weigh1 W j.1 j.2.1 (by omega) (by omega)) fun h1 m1 => c_X6_weigh1 W m1.1 m1.2.1 (by omega) (by omega)
    · exact prEI ok j m (c_X5_weighO1 W j.1 hc hw q) fun h1 m1 => c_X6_weighO1 W m1.1 hc hw q
  · by_cases d2 : d = 2
    · subst d2
      by_cases q : 0 ≤ c ∧ c < sF S.σ ∧ 1 ≤ w ∧ w ≤ 3
      · obtain ⟨cn, rfl⟩ : ∃ n : Nat, c = n := ⟨c.toNat, by omega⟩
        obtain ⟨wn, rfl⟩ : ∃ n : Nat, w = n := ⟨w.toNat, by omega⟩
        exact prA ok j m (WF_setWF W (by omega)) (c_X5_weigh2 W j.1 j.2.1 (by omega) (by omega)) fun h1 m1 => c_X6_weigh2 W m1.1 m1.2.1 (by omega) (by omega)
      · exact prEI ok j m (c_X5_weighO2 W j.1 hc hw q) fun h1 m1 => c_X6_weighO2 W m1.1 hc hw q
    · exact prEI ok j m (c_X5_weighN W j.1 hd ⟨d1, d2⟩ hc hw) fun h1 m1 => c_X6_weighN W m1.1 hd ⟨d1, d2⟩ hc hw
set_option maxRecDepth 100000 in
set_option maxHeartbeats 4000000 in
theorem pr_edge {g : GG} {h : HH} (J : JJ h) {a b w : Int} (ha : R32 a) (hb : R32 b) (hw : R32 w) : PrX vi mX5_edge mX6_edge g [vi a, vi b, vi w] h := by
  obtain ⟨S, ok, j, m⟩ := J
  have W := ok.1
  by_cases h0 : sP S.σ = 0
  · exact prEI ok j m (c_X5_edgeS W j.1 ha hb hw h0) fun h1 m1 => c_X6_edgeS W m1.1 ha hb hw h0
  · by_cases q : 0 ≤ a ∧ a < sP S.σ ∧ 0 ≤ b ∧ b < sP S.σ ∧ 1 ≤ w ∧ w ≤ 3
    · obtain ⟨an, rfl⟩ : ∃ n : Nat, a = n := ⟨a.toNat, by omega⟩
      obtain ⟨bn, rfl⟩ : ∃ n : Nat, b = n := ⟨b.toNat, by omega⟩
      obtain ⟨wn, rfl⟩ : ∃ n : Nat, w = n := ⟨w.toNat, by omega⟩
      by_cases e6 : sE S.σ = 6
      · exact prEI ok j m (c_X5_edgeF W j.1 (by omega) (by omega) (by omega) e6) fun h1 m1 => c_X6_edgeF W m1.1 (by omega) (by omega) (by omega) e6
      · have := W.2.1
        exact prA ok j m (WF_addE W (by omega) (by omega) (by omega) (by omega)) (c_X5_edge1 W j.1 j.2.1 (by omega) (by omega) (by omega) (by omega)) fun h1 m1 => c_X6_edge1 W m1.1 m1.2.1 (by omega) (by omega) (by omega) (by omega)
    · exact prEI ok j m (c_X5_edgeO W j.1 ha hb hw (by omega) q) fun h1 m1 => c_X6_edgeO W m1.1 ha hb hw (by omega) q
set_option maxRecDepth 100000 in
set_option maxHeartbeats 4000000 in
theorem pr_drop {g : GG} {h : HH} (J : JJ h) {d c : Int} (hd : R32 d) (hc : R32 c) : PrX vi mX5_drop mX6_drop g [vi d, vi c] h := by
  obtain ⟨S, ok, j, m⟩ := J
  have W := ok.1
  by_cases d1 : d = 1
  · subst d1
    by_cases q : 0 ≤ c ∧ c < sE S.σ
    · obtain ⟨cn, rfl⟩ : ∃ n : Nat, c = n := ⟨c.toNat, by omega⟩
      have cn1 : cn < sE S.σ := by omega
      by_cases s : sewn S.σ cn
      · exact prEI ok j m (c_X5_dropS W j.1 cn1 s) fun h1 m1 => c_X6_dropS W m1.1 cn1 s
      · exact prA ok j m (WF_dropE W cn1 s) (c_X5_drop1 W j.1 j.2.1 cn1 s) fun h1 m1 => c_X6_drop1 W m1.1 m1.2.1 cn1 s
    · exact prEI ok j m (c_X5_dropO1 W j.1 hc q) fun h1 m1 => c_X6_dropO1 W m1.1 hc q
  · by_cases d2 : d = 2
    · subst d2
      by_cases q : 0 ≤ c ∧ c < sF S.σ
      · obtain ⟨cn, rfl⟩ : ∃ n : Nat, c = n := ⟨c.toNat, by omega⟩
        have cn1 : cn < sF S.σ := by omega
        exact prA ok j m (WF_dropF W cn1) (c_X5_drop2 W j.1 j.2.1 cn1) fun h1 m1 => c_X6_drop2 W m1.1 m1.2.1 cn1
      · exact prEI ok j m (c_X5_dropO2 W j.1 hc q) fun h1 m1 => c_X6_dropO2 W m1.1 hc q
    · exact prEI ok j m (c_X5_dropN W j.1 hd ⟨d1, d2⟩ hc) fun h1 m1 => c_X6_dropN W m1.1 hd ⟨d1, d2⟩ hc
set_option maxRecDepth 100000 in
set_option maxHeartbeats 4000000 in
theorem pr_put {g : GG} {h : HH} (J : JJ h) {c e v : Int} (hc : R32 c) (he : R32 e) (hv : R32 v) : PrX vi mX5_put mX6_put g [vi c, vi e, vi v] h := by
  obtain ⟨S, ok, j, m⟩ := J
  have W := ok.1
  by_cases q : 0 ≤ c ∧ c < 3 ∧ 0 ≤ e ∧ e < sE S.σ ∧ -9 ≤ v ∧ v ≤ 9
  · obtain ⟨cn, rfl⟩ : ∃ n : Nat, c = n := ⟨c.toNat, by omega⟩
    obtain ⟨en, rfl⟩ : ∃ n : Nat, e = n := ⟨e.toNat, by omega⟩
    exact prA ok j m (WF_setCh W (by omega)) (c_X5_put1 W j.1 j.2.1 (by omega) (by omega) (by omega)) fun h1 m1 => c_X6_put1 W m1.1 m1.2.1 (by omega) (by omega) (by omega)
  · exact prEI ok j m (c_X5_putO W j.1 hc he hv q) fun h1 m1 => c_X6_putO W m1.1 hc he hv q
set_option maxRecDepth 100000 in
set_option maxHeartbeats 4000000 in
theorem pr_bound {g : GG} {h : HH} (J : JJ h) {c e v : Int} (hc : R32 c) (he : R32 e) (hv : R32 v) : PrX vi mX5_bound mX6_bound g [vi c, vi e, vi v] h := by
  obtain ⟨S, ok, j, m⟩ := J
  have W := ok.1
  by_cases q : 0 ≤ c ∧ c < 3 ∧ 0 ≤ e ∧ e < sF S.σ ∧ -9 ≤ v ∧ v ≤ 9
  · obtain ⟨cn, rfl⟩ : ∃ n : Nat, c = n := ⟨c.toNat, by omega⟩
    obtain ⟨en, rfl⟩ : ∃ n : Nat, e = n := ⟨e.toNat, by omega⟩
    by_cases r : ∀ e, e < sE S.σ → -9 ≤ bndV S.σ cn en v e ∧ bndV S.σ cn en v e ≤ 9
    · exact prA ok j m (WF_chS W r) (c_X5_bound1 W j.1 j.2.1 (by omega) (by omega) (by omega) r) fun h1 m1 => c_X6_bound1 W m1.1 m1.2.1 (by omega) (by omega) (by omega) r
    · exact prEI ok j m (c_X5_boundF W j.1 (by omega) (by omega) (by omega) r) fun h1 m1 => c_X6_boundF W m1.1 (by omega) (by omega) (by omega) r
  · exact prEI ok j m (c_X5_boundO W j.1 hc he hv q) fun h1 m1 => c_X6_boundO W m1.1 hc he hv q
set_option maxRecDepth 100000 in
set_option maxHeartbeats 4000000 in
theorem pr_drawn {g : GG} {h : HH} (J : JJ h) {c s : Int} (hc : R32 c) (hs : R32 s) : PrX vi mX5_drawn mX6_drawn g [vi c, vi s] h := by
  obtain ⟨S, ok, j, m⟩ := J
  have W := ok.1
  by_cases h0 : sP S.σ = 0
  · exact prEI ok j m (c_X5_drawnS W j.1 hc hs h0) fun h1 m1 => c_X6_drawnS W m1.1 hc hs h0
  · by_cases q : 0 ≤ c ∧ c < 3 ∧ 1 ≤ s ∧ s ≤ 999999
    · obtain ⟨cn, rfl⟩ : ∃ n : Nat, c = n := ⟨c.toNat, by omega⟩
      exact prA ok j m (WF_chS W (fun e _ => drV_r (by omega) e)) (c_X5_drawn1 W j.1 j.2.1 (by omega) (by omega) (by omega)) fun h1 m1 => c_X6_drawn1 W m1.1 m1.2.1 (by omega) (by omega) (by omega)
    · exact prEI ok j m (c_X5_drawnO W j.1 hc hs (by omega) q) fun h1 m1 => c_X6_drawnO W m1.1 hc hs (by omega) q
set_option maxRecDepth 100000 in
set_option maxHeartbeats 4000000 in
theorem pr_cell {g : GG} {h : HH} (J : JJ h) {d c w : Int} (hd : R32 d) (hc : R32 c) (hw : R32 w) : PrX vi mX5_cell mX6_cell g [vi d, vi c, vi w] h := by
  obtain ⟨S, ok, j, m⟩ := J
  have W := ok.1
  by_cases d1 : d = 1
  · subst d1
    by_cases q : 0 ≤ c ∧ c < sE S.σ
    · obtain ⟨cn, rfl⟩ : ∃ n : Nat, c = n := ⟨c.toNat, by omega⟩
      exact prEI ok j m (c_X5_cell1 W j.1 (by omega) hw) fun h1 m1 => c_X6_cell1 W m1.1 (by omega) hw
    · exact prEI ok j m (c_X5_cellO1 W j.1 hc q hw) fun h1 m1 => c_X6_cellO1 W m1.1 hc q hw
  · by_cases d2 : d = 2
    · subst d2
      by_cases q : 0 ≤ c ∧ c < sF S.σ
      · obtain ⟨cn, rfl⟩ : ∃ n : Nat, c = n := ⟨c.toNat, by omega⟩
        exact prEI ok j m (c_X5_cell2 W j.1 (by omega) hw) fun h1 m1 => c_X6_cell2 W m1.1 (by omega) hw
      · exact prEI ok j m (c_X5_cellO2 W j.1 hc q hw) fun h1 m1 => c_X6_cellO2 W m1.1 hc q hw
    · by_cases d0 : d = 0
      · subst d0
        exact prEI ok j m (c_X5_cellN W j.1 hd ⟨d1, d2⟩ hc hw) fun h1 m1 => c_X6_cell0 W m1.1 hc hw
      · exact prEI ok j m (c_X5_cellN W j.1 hd ⟨d1, d2⟩ hc hw) fun h1 m1 => c_X6_cellN W m1.1 hd (by omega) hc hw
set_option maxRecDepth 100000 in
set_option maxHeartbeats 4000000 in
theorem pr_table {g : GG} {h : HH} (J : JJ h) {d a k : Int} (hd : R32 d) (hi : R32 a) (hk : R32 k) : PrX vi mX5_table mX6_table g [vi d, vi a, vi k] h := by
  obtain ⟨S, ok, j, m⟩ := J
  have W := ok.1
  by_cases d1 : d = 1
  · subst d1
    by_cases q : 0 ≤ a ∧ a < sP S.σ ∧ 0 ≤ k ∧ k < sE S.σ
    · obtain ⟨an, rfl⟩ : ∃ n : Nat, a = n := ⟨a.toNat, by omega⟩
      obtain ⟨kn, rfl⟩ : ∃ n : Nat, k = n := ⟨k.toNat, by omega⟩
      exact prEI ok j m (c_X5_table1 W j.1 (by omega) (by omega)) fun h1 m1 => c_X6_table1 W m1.1 (by omega) (by omega)
    · exact prEI ok j m (c_X5_tableO1 W j.1 hi hk q) fun h1 m1 => c_X6_tableO1 W m1.1 hi hk q
  · by_cases d2 : d = 2
    · subst d2
      by_cases q : 0 ≤ a ∧ a < sE S.σ ∧ 0 ≤ k ∧ k < sF S.σ
      · obtain ⟨an, rfl⟩ : ∃ n : Nat, a = n := ⟨a.toNat, by omega⟩
        obtain ⟨kn, rfl⟩ : ∃ n : Nat, k = n := ⟨k.toNat, by omega⟩
        exact prEI ok j m (c_X5_table2 W j.1 (by omega) (by omega)) fun h1 m1 => c_X6_table2 W m1.1 (by omega) (by omega)
      · exact prEI ok j m (c_X5_tableO2 W j.1 hi hk q) fun h1 m1 => c_X6_tableO2 W m1.1 hi hk q
    · exact prEI ok j m (c_X5_tableN W j.1 hd (by omega) hi hk) fun h1 m1 => c_X6_tableN W m1.1 hd (by omega) hi hk
set_option maxRecDepth 100000 in
set_option maxHeartbeats 4000000 in
theorem pr_near {g : GG} {h : HH} (J : JJ h) {d a k : Int} (hd : R32 d) (hi : R32 a) (hk : R32 k) : PrX vi mX5_near mX6_near g [vi d, vi a, vi k] h := by
  obtain ⟨S, ok, j, m⟩ := J
  have W := ok.1
  by_cases d0 : d = 0
  · subst d0
    by_cases q : 0 ≤ a ∧ a < sP S.σ ∧ 0 ≤ k ∧ k < sP S.σ
    · obtain ⟨an, rfl⟩ : ∃ n : Nat, a = n := ⟨a.toNat, by omega⟩
      obtain ⟨kn, rfl⟩ : ∃ n : Nat, k = n := ⟨k.toNat, by omega⟩
      exact prEI ok j m (c_X5_near0 W j.1 (by omega) (by omega)) fun h1 m1 => c_X6_nearA0 W m1.1 (by omega) (by omega)
    · exact prEI ok j m (c_X5_nearO0 W j.1 hi hk q) fun h1 m1 => c_X6_nearO0 W m1.1 hi hk q
  by_cases d1 : d = 1
  · subst d1
    by_cases q : 0 ≤ a ∧ a < sE S.σ ∧ 0 ≤ k ∧ k < sE S.σ
    · obtain ⟨an, rfl⟩ : ∃ n : Nat, a = n := ⟨a.toNat, by omega⟩
      obtain ⟨kn, rfl⟩ : ∃ n : Nat, k = n := ⟨k.toNat, by omega⟩
      exact prEI ok j m (c_X5_near1 W j.1 (by omega) (by omega)) fun h1 m1 => c_X6_nearA1 W m1.1 (by omega) (by omega)
    · exact prEI ok j m (c_X5_nearO1 W j.1 hi hk q) fun h1 m1 => c_X6_nearO1 W m1.1 hi hk q
  by_cases d2 : d = 2
  · subst d2
    by_cases q : 0 ≤ a ∧ a < sE S.σ ∧ 0 ≤ k ∧ k < sE S.σ
    · obtain ⟨an, rfl⟩ : ∃ n : Nat, a = n := ⟨a.toNat, by omega⟩
      obtain ⟨kn, rfl⟩ : ∃ n : Nat, k = n := ⟨k.toNat, by omega⟩
      exact prEI ok j m (c_X5_near2 W j.1 (by omega) (by omega)) fun h1 m1 => c_X6_nearA2 W m1.1 (by omega) (by omega)
    · exact prEI ok j m (c_X5_nearO2 W j.1 hi hk q) fun h1 m1 => c_X6_nearO2 W m1.1 hi hk q
  exact prEI ok j m (c_X5_nearN W j.1 hd (by omega) hi hk) fun h1 m1 => c_X6_nearN W m1.1 hd (by omega) hi hk
set_option maxRecDepth 100000 in
set_option maxHeartbeats 4000000 in
theorem pr_chain {g : GG} {h : HH} (J : JJ h) {c e : Int} (hc : R32 c) (he : R32 e) : PrX vi mX5_chain mX6_chain g [vi c, vi e] h := by
  obtain ⟨S, ok, j, m⟩ := J
  have W := ok.1
  by_cases q : 0 ≤ c ∧ c < 3 ∧ 0 ≤ e ∧ e < sE S.σ
  · obtain ⟨cn, rfl⟩ : ∃ n : Nat, c = n := ⟨c.toNat, by omega⟩
    obtain ⟨en, rfl⟩ : ∃ n : Nat, e = n := ⟨e.toNat, by omega⟩
    have w4 := W.2.2.2.1 en (by omega)
    exact prEI ok j m (c_X5_chain1 W j.1 (by omega) (by omega)) fun h1 m1 => c_X6_chain1 W m1.1 (by omega) (by omega) (by omega)
  · exact prEI ok j m (c_X5_chainO W j.1 hc he q) fun h1 m1 => c_X6_chainO W m1.1 hc he q
set_option maxRecDepth 100000 in
set_option maxHeartbeats 4000000 in
theorem pr_ends {g : GG} {h : HH} (J : JJ h) {c e : Int} (hc : R32 c) (he : R32 e) : PrX vi mX5_ends mX6_ends g [vi c, vi e] h := by
  obtain ⟨S, ok, j, m⟩ := J
  have W := ok.1
  by_cases q : 0 ≤ c ∧ c < 3 ∧ 0 ≤ e ∧ e < sP S.σ
  · obtain ⟨cn, rfl⟩ : ∃ n : Nat, c = n := ⟨c.toNat, by omega⟩
    obtain ⟨en, rfl⟩ : ∃ n : Nat, e = n := ⟨e.toNat, by omega⟩
    exact prEI ok j m (c_X5_ends1 W j.1 (by omega) (by omega)) fun h1 m1 => c_X6_ends1 W m1.1 (by omega) (by omega) (by omega)
  · exact prEI ok j m (c_X5_endsO W j.1 hc he q) fun h1 m1 => c_X6_endsO W m1.1 hc he q
set_option maxRecDepth 100000 in
set_option maxHeartbeats 4000000 in
theorem pr_fault {g : GG} {h : HH} (J : JJ h)  : PrX vi mX5_fault mX6_fault g [] h := by
  obtain ⟨S, ok, j, m⟩ := J
  have W := ok.1
  exact prEI (z := S.lf) ok j m (by have := j.2.2.2.2.2.2; rw [← this]; exact c_X5_fault) fun h1 m1 => by have := m1.2.2.2.2.2; rw [← this]; exact c_X6_fault
set_option maxRecDepth 100000 in
set_option maxHeartbeats 4000000 in
theorem pr_rank {g : GG} {h : HH} (J : JJ h) {d p : Int} (hd : R32 d) (hp : R32 p) : PrX vi mX5_rank mX6_rank g [vi d, vi p] h := by
  obtain ⟨S, ok, j, m⟩ := J
  have W := ok.1
  by_cases h0 : sP S.σ = 0
  · exact prEI ok j m (c_X5_rankS W j.1 hd hp h0) fun h1 m1 => c_X6_rankS W m1.1 hd hp h0
  · have h0 : 0 < sP S.σ := by omega
    by_cases q : 1 ≤ d ∧ d ≤ 2 ∧ (p = 0 ∨ p = 2 ∨ p = 3 ∨ p = 5 ∨ p = 7)
    · by_cases d1 : d = 1
      · subst d1
        exact prG (mk := vi) ok j m (c_X5_rank1 W j.1 q.2.2 h0) (fun h1 m1 => c_X6_rank1 W m1.1 q.2.2 h0) (fun z w a b => by
          obtain ⟨k, rfl, _, K⟩ := a
          obtain ⟨l, rfl, L⟩ := b
          rw [rk_uniq K L])
      · have : d = 2 := by omega
        subst this
        exact prG (mk := vi) ok j m (c_X5_rank2 W j.1 q.2.2 h0) (fun h1 m1 => c_X6_rank2 W m1.1 q.2.2 h0) (fun z w a b => by
          obtain ⟨k, rfl, _, K⟩ := a
          obtain ⟨l, rfl, L⟩ := b
          rw [rk_uniq K L])
    · exact prEI ok j m (c_X5_rankO W j.1 hd hp h0 q) fun h1 m1 => c_X6_rankO W m1.1 hd hp h0 q
set_option maxRecDepth 100000 in
set_option maxHeartbeats 4000000 in
theorem pr_holes {g : GG} {h : HH} (J : JJ h) {d p : Int} (hd : R32 d) (hp : R32 p) : PrX vi mX5_holes mX6_holes g [vi d, vi p] h := by
  obtain ⟨S, ok, j, m⟩ := J
  have W := ok.1
  by_cases h0 : sP S.σ = 0
  · exact prEI ok j m (c_X5_holesS W j.1 hd hp h0) fun h1 m1 => c_X6_holesS W m1.1 hd hp h0
  · have h0 : 0 < sP S.σ := by omega
    by_cases q : 0 ≤ d ∧ d ≤ 2 ∧ (p = 0 ∨ p = 2 ∨ p = 3 ∨ p = 5 ∨ p = 7)
    · by_cases d0 : d = 0
      · subst d0
        exact prG (mk := vi) ok j m (c_X5_holes0 W j.1 q.2.2 h0) (fun h1 m1 => c_X6_holes0 W m1.1 q.2.2 h0) (fun z w a b => by
          obtain ⟨k, rfl, K⟩ := a
          obtain ⟨k', l', K', L', rfl⟩ := b
          rw [rk_uniq K K']; omega)
      · by_cases d1 : d = 1
        · subst d1
          exact prG (mk := vi) ok j m (c_X5_holes1 W j.1 q.2.2 h0) (fun h1 m1 => c_X6_holes1 W m1.1 q.2.2 h0) (fun z w a b => by
            obtain ⟨k, l, rfl, K, L⟩ := a
            obtain ⟨k', l', K', L', rfl⟩ := b
            rw [rk_uniq K K', rk_uniq L L'])
        · have : d = 2 := by omega
          subst this
          exact prG (mk := vi) ok j m (c_X5_holes2 W j.1 q.2.2 h0) (fun h1 m1 => c_X6_holes2 W m1.1 q.2.2 h0) (fun z w a b => by
            obtain ⟨l, rfl, L⟩ := a
            obtain ⟨k', l', K', L', rfl⟩ := b
            rw [rk_uniq L L']; omega)
    · exact prEI ok j m (c_X5_holesO W j.1 hd hp h0 q) fun h1 m1 => c_X6_holesO W m1.1 hd hp h0 q
set_option maxRecDepth 100000 in
set_option maxHeartbeats 4000000 in
theorem pr_twist {g : GG} {h : HH} (J : JJ h) {d p : Int} (hd : R32 d) (hp : R32 p) : PrX vi mX5_twist mX6_twist g [vi d, vi p] h := by
  obtain ⟨S, ok, j, m⟩ := J
  have W := ok.1
  by_cases h0 : sP S.σ = 0
  · exact prEI ok j m (c_X5_twistS W j.1 hd hp h0) fun h1 m1 => c_X6_twistS W m1.1 hd hp h0
  · have h0 : 0 < sP S.σ := by omega
    by_cases q : 0 ≤ d ∧ d < ((2 ^ sF S.σ : Nat) : Int) ∧ 0 ≤ p
    · obtain ⟨dn, rfl⟩ : ∃ n : Nat, d = n := ⟨d.toNat, by omega⟩
      have ha : dn < 2 ^ sF S.σ := by omega
      by_cases p0 : p = 0
      · subst p0
        exact prG (mk := vi) ok j m (c_X5_twist0 W j.1 h0 ha) (fun h1 m1 => c_X6_twist0 W m1.1 h0 ha) (fun z w a b => by
          obtain ⟨k, d, rfl, K, D⟩ := a
          obtain ⟨k', d', rfl, K', D'⟩ := b
          have := rk_uniq K K'
          subst this
          rw [dv_uniq D D'])
      · obtain ⟨pn, rfl⟩ : ∃ n : Nat, p = n := ⟨p.toNat, by omega⟩
        exact prG (mk := vi) ok j m (c_X5_twist1 W j.1 h0 ha ⟨by omega, by omega⟩) (fun h1 m1 => c_X6_twist1 W m1.1 h0 ha ⟨by omega, by omega⟩) (fun z w a b => (br_tw a b).symm)
    · exact prEI ok j m (c_X5_twistO W j.1 hd hp h0 q) fun h1 m1 => c_X6_twistO W m1.1 hd hp h0 q
set_option maxRecDepth 100000 in
set_option maxHeartbeats 4000000 in
theorem pr_whole {g : GG} {h : HH} (J : JJ h) {c w : Int} (hc : R32 c) (hw : R32 w) : PrX vi mX5_whole mX6_whole g [vi c, vi w] h := by
  obtain ⟨S, ok, j, m⟩ := J
  have W := ok.1
  by_cases h0 : sP S.σ = 0
  · exact prEI ok j m (c_X5_wholeS W j.1 hc hw h0) fun h1 m1 => c_X6_wholeS W m1.1 hc hw h0
  · have h0 : 0 < sP S.σ := by omega
    by_cases q : 0 ≤ c ∧ c < 3 ∧ 0 ≤ w ∧ w ≤ 2
    · obtain ⟨cn, rfl⟩ : ∃ n : Nat, c = n := ⟨c.toNat, by omega⟩
      have c3 : cn < 3 := by omega
      by_cases w0 : w = 0
      · subst w0
        exact prEI ok j m (c_X5_whole0 W j.1 c3 h0) fun h1 m1 => c_X6_whole0 W m1.1 c3 h0
      · by_cases w1 : w = 1
        · subst w1
          exact prG (mk := vi) ok j m (c_X5_whole1 W j.1 c3 h0) (fun h1 m1 => c_X6_whole1 W m1.1 c3 h0) (fun z w a b => (br_wh1 W a b).symm)
        · have : w = 2 := by omega
          subst this
          exact prG (mk := vi) ok j m (c_X5_whole2 W j.1 c3 h0) (fun h1 m1 => c_X6_whole2 W m1.1 c3 h0) (fun z w a b => (br_wh2 W a b).symm)
    · exact prEI ok j m (c_X5_wholeO W j.1 hc hw h0 q) fun h1 m1 => c_X6_wholeO W m1.1 hc hw h0 q
set_option maxRecDepth 100000 in
set_option maxHeartbeats 4000000 in
theorem pr_trees {g : GG} {h : HH} (J : JJ h) {d p : Int} (hd : R32 d) (hp : R32 p) : PrX vl mX5_trees mX6_trees g [vi d, vi p] h := by
  obtain ⟨S, ok, j, m⟩ := J
  have W := ok.1
  by_cases h0 : sP S.σ = 0
  · exact prEL ok j m (c_X5_treesS W j.1 hd hp h0) fun h1 m1 => c_X6_treesS W m1.1 hd hp h0
  · have h0 : 0 < sP S.σ := by omega
    by_cases q : 1 ≤ d ∧ d ≤ 2 ∧ 0 ≤ p ∧ p ≤ 1
    · rcases (show (d = 1 ∧ p = 0) ∨ (d = 1 ∧ p = 1) ∨ (d = 2 ∧ p = 0) ∨ (d = 2 ∧ p = 1) by omega) with ⟨rfl, rfl⟩ | ⟨rfl, rfl⟩ | ⟨rfl, rfl⟩ | ⟨rfl, rfl⟩
      · exact prG (mk := vl) ok j m (c_X5_trees10 W j.1 h0) (fun h1 m1 => c_X6_trees10 W m1.1 h0) (fun z w a b => by
          obtain ⟨k, K, rfl⟩ := a
          obtain ⟨l, L, rfl⟩ := b
          rw [rk_uniq K L])
      · exact prG (mk := vl) ok j m (c_X5_trees11 W j.1 h0) (fun h1 m1 => c_X6_trees11 W m1.1 h0) (fun z w a b => by
          obtain ⟨k, K, rfl⟩ := a
          obtain ⟨l, L, rfl⟩ := b
          rw [rk_uniq K L])
      · exact prG (mk := vl) ok j m (c_X5_trees20 W j.1 h0) (fun h1 m1 => c_X6_trees20 W m1.1 h0) (fun z w a b => by
          obtain ⟨k, K, rfl⟩ := a
          obtain ⟨l, L, rfl⟩ := b
          rw [rk_uniq K L])
      · exact prG (mk := vl) ok j m (c_X5_trees21 W j.1 h0) (fun h1 m1 => c_X6_trees21 W m1.1 h0) (fun z w a b => by
          obtain ⟨k, K, rfl⟩ := a
          obtain ⟨l, L, rfl⟩ := b
          rw [rk_uniq K L])
    · exact prEL ok j m (c_X5_treesO W j.1 hd hp h0 q) fun h1 m1 => c_X6_treesO W m1.1 hd hp h0 q
set_option maxRecDepth 100000 in
set_option maxHeartbeats 4000000 in
theorem pr_minors {g : GG} {h : HH} (J : JJ h) {d : Int} (hd : R32 d) : PrX vl mX5_minors mX6_minors g [vi d] h := by
  obtain ⟨S, ok, j, m⟩ := J
  have W := ok.1
  by_cases h0 : sP S.σ = 0
  · exact prEL ok j m (c_X5_minorsS W j.1 hd h0) fun h1 m1 => c_X6_minorsS W m1.1 hd h0
  · have h0 : 0 < sP S.σ := by omega
    by_cases q : 0 ≤ d ∧ d ≤ 2
    · rcases (show d = 0 ∨ d = 1 ∨ d = 2 by omega) with rfl | rfl | rfl
      · exact prG (mk := vl) ok j m (c_X5_minors0 W j.1 h0) (fun h1 m1 => c_X6_minors0 W m1.1 h0) (fun z w a b => by
          obtain ⟨k, K, rfl⟩ := a
          obtain ⟨l, L, rfl⟩ := b
          rw [rk_uniq K (br_n0 W L)])
      · exact prG (mk := vl) ok j m (c_X5_minors1 W j.1 h0) (fun h1 m1 => c_X6_minors1 W m1.1 h0) (fun z w a b => by
          obtain ⟨k, K, rfl⟩ := a
          obtain ⟨l, L, rfl⟩ := b
          rw [rk_uniq K (br_n1 W L)])
      · exact prG (mk := vl) ok j m (c_X5_minors2 W j.1 h0) (fun h1 m1 => c_X6_minors2 W m1.1 h0) (fun z w a b => by
          obtain ⟨k, K, rfl⟩ := a
          obtain ⟨l, L, rfl⟩ := b
          rw [rk_uniq K (br_n2 W L)])
    · exact prEL ok j m (c_X5_minorsO W j.1 hd h0 q) fun h1 m1 => c_X6_minorsO W m1.1 hd h0 q
set_option maxRecDepth 100000 in
set_option maxHeartbeats 4000000 in
theorem pr_part {g : GG} {h : HH} (J : JJ h) {c p e w : Int} (hc : R32 c) (hp : R32 p) (he : R32 e) (hw : R32 w) : PrX vl mX5_part mX6_part g [vi c, vi p, vi e, vi w] h := by
  obtain ⟨S, ok, j, m⟩ := J
  have W := ok.1
  by_cases q : 0 ≤ c ∧ c < 3 ∧ 0 ≤ p ∧ p ≤ 2 ∧ 0 ≤ e ∧ e < sE S.σ ∧ 0 ≤ w ∧ w ≤ 1
  · obtain ⟨cn, rfl⟩ : ∃ n : Nat, c = n := ⟨c.toNat, by omega⟩
    obtain ⟨en, rfl⟩ : ∃ n : Nat, e = n := ⟨e.toNat, by omega⟩
    have c3 : cn < 3 := by omega
    have w4 := W.2.2.2.1 en (by omega)
    have h0 : 0 < sP S.σ := by omega
    rcases (show (p = 0 ∧ w = 0) ∨ (p = 0 ∧ w = 1) ∨ (p = 1 ∧ w = 0) ∨ (p = 1 ∧ w = 1) ∨ (p = 2 ∧ w = 0) ∨ (p = 2 ∧ w = 1) by omega) with ⟨rfl, rfl⟩ | ⟨rfl, rfl⟩ | ⟨rfl, rfl⟩ | ⟨rfl, rfl⟩ | ⟨rfl, rfl⟩ | ⟨rfl, rfl⟩
    · exact prR (mk := vl) ok j m (c_X5_part00 W j.1 c3 (by omega)) (fun h1 m1 => c_X6_part00 W m1.1 c3 h0 (by omega)) (fun z w a b => (PVz.uniq W (by decide) (show en < sE S.σ by omega) a b).symm)
    · exact prR (mk := vl) ok j m (c_X5_part01 W j.1 c3 (by omega)) (fun h1 m1 => c_X6_part01 W m1.1 c3 h0 (by omega)) (fun z w a b => (PVz.uniq W (by decide) (show en < sE S.σ by omega) a b).symm)
    · exact prR (mk := vl) ok j m (c_X5_part10 W j.1 c3 (by omega)) (fun h1 m1 => c_X6_part10 W m1.1 c3 h0 (by omega)) (fun z w a b => (PVz.uniq W (by decide) (show en < sE S.σ by omega) a b).symm)
    · exact prR (mk := vl) ok j m (c_X5_part11 W j.1 c3 (by omega)) (fun h1 m1 => c_X6_part11 W m1.1 c3 h0 (by omega)) (fun z w a b => (PVz.uniq W (by decide) (show en < sE S.σ by omega) a b).symm)
    · exact prR (mk := vl) ok j m (c_X5_part20 W j.1 c3 (by omega)) (fun h1 m1 => c_X6_part20 W m1.1 c3 h0 (by omega)) (fun z w a b => (PVz.uniq W (by decide) (show en < sE S.σ by omega) a b).symm)
    · exact prR (mk := vl) ok j m (c_X5_part21 W j.1 c3 (by omega)) (fun h1 m1 => c_X6_part21 W m1.1 c3 h0 (by omega)) (fun z w a b => (PVz.uniq W (by decide) (show en < sE S.σ by omega) a b).symm)
  · exact prEL ok j m (c_X5_partO W j.1 hc hp he hw q) fun h1 m1 => c_X6_partO W m1.1 hc hp he hw (fun r => q r.2)
set_option maxRecDepth 100000 in
set_option maxHeartbeats 4000000 in
theorem pr_length {g : GG} {h : HH} (J : JJ h) {c p w : Int} (hc : R32 c) (hp : R32 p) (hw : R32 w) : PrX vl mX5_length mX6_length g [vi c, vi p, vi w] h := by
  obtain ⟨S, ok, j, m⟩ := J
  have W := ok.1
  by_cases h0 : sP S.σ = 0
  · exact prEL ok j m (c_X5_lengthS W j.1 hc hp hw h0) fun h1 m1 => c_X6_lengthS W m1.1 hc hp hw h0
  · have h0 : 0 < sP S.σ := by omega
    by_cases q : 0 ≤ c ∧ c < 3 ∧ 0 ≤ p ∧ p ≤ 3 ∧ 0 ≤ w ∧ w ≤ 1
    · obtain ⟨cn, rfl⟩ : ∃ n : Nat, c = n := ⟨c.toNat, by omega⟩
      have c3 : cn < 3 := by omega
      rcases (show (p = 0 ∧ w = 0) ∨ (p = 0 ∧ w = 1) ∨ (p = 1 ∧ w = 0) ∨ (p = 1 ∧ w = 1) ∨ (p = 2 ∧ w = 0) ∨ (p = 2 ∧ w = 1) ∨ (p = 3 ∧ w = 0) ∨ (p = 3 ∧ w = 1) by omega) with ⟨rfl, rfl⟩ | ⟨rfl, rfl⟩ | ⟨rfl, rfl⟩ | ⟨rfl, rfl⟩ | ⟨rfl, rfl⟩ | ⟨rfl, rfl⟩ | ⟨rfl, rfl⟩ | ⟨rfl, rfl⟩
      · exact prR (mk := vl) ok j m (c_X5_length00 W j.1 c3 h0) (fun h1 m1 => c_X6_length00 W m1.1 c3 h0) (fun z w a b => (LNz.uniq W (by decide) a b).symm)
      · exact prR (mk := vl) ok j m (c_X5_length01 W j.1 c3 h0) (fun h1 m1 => c_X6_length01 W m1.1 c3 h0) (fun z w a b => (LNz.uniq W (by decide) a b).symm)
      · exact prR (mk := vl) ok j m (c_X5_length10 W j.1 c3 h0) (fun h1 m1 => c_X6_length10 W m1.1 c3 h0) (fun z w a b => (LNz.uniq W (by decide) a b).symm)
      · exact prR (mk := vl) ok j m (c_X5_length11 W j.1 c3 h0) (fun h1 m1 => c_X6_length11 W m1.1 c3 h0) (fun z w a b => (LNz.uniq W (by decide) a b).symm)
      · exact prR (mk := vl) ok j m (c_X5_length20 W j.1 c3 h0) (fun h1 m1 => c_X6_length20 W m1.1 c3 h0) (fun z w a b => (LNz.uniq W (by decide) a b).symm)
      · exact prR (mk := vl) ok j m (c_X5_length21 W j.1 c3 h0) (fun h1 m1 => c_X6_length21 W m1.1 c3 h0) (fun z w a b => (LNz.uniq W (by decide) a b).symm)
      · exact prR (mk := vl) ok j m (c_X5_length30 W j.1 c3 h0) (fun h1 m1 => c_X6_length30 W m1.1 c3 h0) (fun z w a b => (LNz.uniq W (by decide) a b).symm)
      · exact prR (mk := vl) ok j m (c_X5_length31 W j.1 c3 h0) (fun h1 m1 => c_X6_length31 W m1.1 c3 h0) (fun z w a b => (LNz.uniq W (by decide) a b).symm)
    · exact prEL ok j m (c_X5_lengthO W j.1 hc hp hw h0 q) fun h1 m1 => c_X6_lengthO W m1.1 hc hp hw h0 q
set_option maxRecDepth 100000 in
set_option maxHeartbeats 4000000 in
theorem pr_share {g : GG} {h : HH} (J : JJ h) {c p : Int} (hc : R32 c) (hp : R32 p) : PrX vi mX5_share mX6_share g [vi c, vi p] h := by
  obtain ⟨S, ok, j, m⟩ := J
  have W := ok.1
  by_cases h0 : sP S.σ = 0
  · exact prEI ok j m (c_X5_shareS W j.1 hc hp h0) fun h1 m1 => c_X6_shareS W m1.1 hc hp h0
  · have h0 : 0 < sP S.σ := by omega
    by_cases q : 0 ≤ c ∧ c < 3 ∧ 0 ≤ p ∧ p ≤ 2
    · obtain ⟨cn, rfl⟩ : ∃ n : Nat, c = n := ⟨c.toNat, by omega⟩
      have c3 : cn < 3 := by omega
      by_cases n0 : nnz S.σ cn = 0
      · exact prEI ok j m (c_X5_shareZ W j.1 c3 q.2.2 h0 n0) fun h1 m1 => c_X6_shareZ W m1.1 c3 q.2.2 h0 n0
      · have nz : ipw (sE S.σ) (msr S.σ) (sch S.σ cn) (sch S.σ cn) ≠ 0 := by have := cc_nz W n0; omega
        rcases (show p = 0 ∨ p = 1 ∨ p = 2 by omega) with rfl | rfl | rfl
        · exact prR (mk := vi) ok j m (c_X5_share0 W j.1 c3 h0 n0) (fun h1 m1 => c_X6_share0 W m1.1 c3 h0 n0) (fun z w a b => (SHz.uniq W (by decide) nz a b).symm)
        · exact prR (mk := vi) ok j m (c_X5_share1 W j.1 c3 h0 n0) (fun h1 m1 => c_X6_share1 W m1.1 c3 h0 n0) (fun z w a b => (SHz.uniq W (by decide) nz a b).symm)
        · exact prR (mk := vi) ok j m (c_X5_share2 W j.1 c3 h0 n0) (fun h1 m1 => c_X6_share2 W m1.1 c3 h0 n0) (fun z w a b => (SHz.uniq W (by decide) nz a b).symm)
    · exact prEI ok j m (c_X5_shareO W j.1 hc hp h0 q) fun h1 m1 => c_X6_shareO W m1.1 hc hp h0 q

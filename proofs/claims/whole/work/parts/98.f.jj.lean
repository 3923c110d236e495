/-! BOTH SIDES TOGETHER: one state told of the sixty cells; a pair of calls answers the same and keeps it -/
abbrev SS : Type := SG × List SG × Nat × (Nat → Int) × Int × (Nat → Option SG)
def SS.σ (S : SS) : SG := S.1
def SS.as (S : SS) : List SG := S.2.1
def SS.n (S : SS) : Nat := S.2.2.1
def SS.tk (S : SS) : Nat → Int := S.2.2.2.1
def SS.lf (S : SS) : Int := S.2.2.2.2.1
def SS.im (S : SS) : Nat → Option SG := S.2.2.2.2.2
def SS.ok (S : SS) : Prop := WF S.σ ∧ S.n ≤ 90 ∧ (∀ i, -1 ≤ S.tk i ∧ S.tk i ≤ 255) ∧ (∀ i, i < S.n → 0 ≤ S.tk i) ∧ ∀ i, S.n ≤ i → S.tk i = -1
def IM (h : HH) (k : Nat) (o : Option SG) : Prop := match o with
  | none => h 52 k = 0
  | some σ => h 52 k = 1 ∧ RM (fun j => h 51 (63 * k + j)) σ ∧ WF σ
def JC (h : HH) (S : SS) : Prop := RC (h 2) S.σ ∧ RA h S.as ∧ (∀ k, k < 2 → RI (h (45 + k)) (S.im k)) ∧ h 5 1 = S.n ∧ TB h ∧ tkT h = S.tk ∧ h 0 10 = S.lf
def JM (h : HH) (S : SS) : Prop := RM (h 48) S.σ ∧ RPast h S.as ∧ (∀ k, k < 2 → IM h k (S.im k)) ∧ h 47 7 = S.n ∧ mtk h = S.tk ∧ h 47 14 = S.lf
def JJ (h : HH) : Prop := ∃ S : SS, S.ok ∧ JC h S ∧ JM h S
def Lo (h h' : HH) : Prop := ∀ k, k < 47 → h' k = h k
def Hi (h h' : HH) : Prop := ∀ k, 47 ≤ k → h' k = h k
theorem tkT_fr {h h' : HH} (f5 : h' 5 1 = h 5 1) (f6 : h' 6 = h 6) : tkT h' = tkT h := by
  funext i; unfold tkT tkI; rw [f5, f6]
theorem mtk_fr {h h' : HH} (f5 : h' 47 7 = h 47 7) (f6 : h' 53 = h 53) : mtk h' = mtk h := by
  funext i; unfold mtk; rw [f5, f6]
theorem IM_fr {h h' : HH} (f1 : h' 51 = h 51) (f2 : h' 52 = h 52) {k : Nat} {o : Option SG} (i : IM h k o) : IM h' k o := by
  cases o with
  | none => unfold IM at i ⊢; rw [f2]; exact i
  | some σ => unfold IM at i ⊢; rw [f1, f2]; exact i
theorem JC.fr {h h' : HH} {S : SS} (J : JC h S) (f0 : ∀ j, j = 8 ∨ j = 9 ∨ j = 10 → h' 0 j = h 0 j) (f2 : h' 2 = h 2) (f5 : h' 5 = h 5) (f6 : h' 6 = h 6) (fk : ∀ k, 36 ≤ k → k < 47 → h' k = h k) : JC h' S := by
  obtain ⟨j1, j2, j3, j4, j5, j6, j7⟩ := J
  refine ⟨by rw [f2]; exact j1, RA_keep j2 (fun j hj => f0 j (by omega)) (fun k k1 k2 => fk k k1 (by omega)), fun k hk => by rw [fk _ (by omega) (by omega)]; exact j3 k hk, by rw [f5]; exact j4, ?_, by rw [tkT_fr (by rw [f5]) f6]; exact j6, by rw [f0 10 (by omega)]; exact j7⟩
  unfold TB; rw [f6]; exact j5
theorem JC.lo {h h' : HH} {S : SS} (J : JC h S) (L : Lo h h') : JC h' S := J.fr (fun j _ => by rw [L 0 (by decide)]) (L 2 (by decide)) (L 5 (by decide)) (L 6 (by decide)) (fun k _ k2 => L k k2)
theorem JM.fr {h h' : HH} {S : SS} (J : JM h S) (f47 : ∀ j, j = 3 ∨ j = 7 ∨ j = 14 → h' 47 j = h 47 j) (f : ∀ k, 48 ≤ k → k < 54 → k ≠ 49 → h' k = h k) : JM h' S := by
  obtain ⟨j1, j2, j3, j4, j5, j6⟩ := J
  exact ⟨by rw [f 48 (by decide) (by decide) (by decide)]; exact j1, RPast_keep j2 (f47 3 (by omega)) (f 50 (by decide) (by decide) (by decide)), fun k hk => IM_fr (f 51 (by decide) (by decide) (by decide)) (f 52 (by decide) (by decide) (by decide)) (j3 k hk), by rw [f47 7 (by omega)]; exact j4, by rw [mtk_fr (f47 7 (by omega)) (f 53 (by decide) (by decide) (by decide))]; exact j5, by rw [f47 14 (by omega)]; exact j6⟩
theorem JM.hi {h h' : HH} {S : SS} (J : JM h S) (L : Hi h h') : JM h' S := J.fr (fun j _ => by rw [L 47 (by decide)]) (fun k k1 _ _ => L k (by omega))
theorem JM.tp {h : HH} {S : SS} (ok : S.ok) (J : JM h S) : TP h S.tk S.n := ⟨J.2.2.2.2.1, J.2.2.2.1, ok.2.1, ok.2.2.1, ok.2.2.2.1⟩
/-! frames of the mathematics -/
theorem JC.gf {h h' : HH} {S : SS} (J : JC h S) (F : GF h h') : JC h' S ∧ Hi h h' := ⟨J.fr (fun j _ => by rw [F 0 (by decide) (by decide)]) (F 2 (by decide) (by decide)) (F 5 (by decide) (by decide)) (F 6 (by decide) (by decide)) (fun k _ _ => F k (by omega) (by omega)), fun k hk => F k (by omega) (by omega)⟩
theorem JC.gs {h h' : HH} {S : SS} (J : JC h S) (F : GS h h') : JC h' S ∧ Hi h h' := ⟨J.fr (fun j _ => by rw [F 0 (by decide)]) (F 2 (by decide)) (F 5 (by decide)) (F 6 (by decide)) (fun k _ _ => F k (by omega)), fun k hk => F k (by omega)⟩
theorem JM.rf {h h' : HH} {S : SS} (J : JM h S) (F : RFm h h') : JM h' S ∧ Lo h h' := ⟨J.fr (fun j hj => F.2 j (by omega) (by omega) (by omega)) (fun k k1 k2 _ => F.1 k k2 (by omega)), fun k hk => F.1 k (by omega) (by omega)⟩
/-! acts -/
def SS.act (S : SS) (σ' : SG) : SS := ⟨σ', (S.σ :: S.as).take 8, S.n, S.tk, S.lf, S.im⟩
theorem JC.act {h h' : HH} {S : SS} (J : JC h S) {σ' : SG} (A : ActP h h' S.σ S.as σ') : JC h' (S.act σ') ∧ Hi h h' := by
  obtain ⟨j1, j2, j3, j4, j5, j6, j7⟩ := J
  obtain ⟨a1, a2, a3, a4⟩ := A
  refine ⟨⟨a1, a2, fun k hk => ?_, ?_, ?_, ?_, ?_⟩, fun k hk => a3 k (by omega) (by omega) (by omega)⟩
  · rw [a3 _ (by omega) (by omega) (by omega)]; exact j3 k hk
  · rw [a3 5 (by decide) (by decide) (by decide)]; exact j4
  · unfold TB; rw [a3 6 (by decide) (by decide) (by decide)]; exact j5
  · rw [tkT_fr (by rw [a3 5 (by decide) (by decide) (by decide)]) (a3 6 (by decide) (by decide) (by decide))]; exact j6
  · rw [a4 10 (by decide) (by decide)]; exact j7
theorem JM.act {h h' : HH} {S : SS} (J : JM h S) {σ' : SG} (A : ActM h h' S.σ S.as σ') : JM h' (S.act σ') ∧ Lo h h' := by
  obtain ⟨j1, j2, j3, j4, j5, j6⟩ := J
  obtain ⟨a1, a2, a3, a4⟩ := A
  refine ⟨⟨a1, a2, fun k hk => IM_fr (a3 51 (by decide) (by decide) (by decide)) (a3 52 (by decide) (by decide) (by decide)) (j3 k hk), ?_, ?_, ?_⟩, fun k hk => a3 k (by omega) (by omega) (by omega)⟩
  · rw [a4 7 (by decide)]; exact j4
  · rw [mtk_fr (a4 7 (by decide)) (a3 53 (by decide) (by decide) (by decide))]; exact j5
  · rw [a4 14 (by decide)]; exact j6
theorem SS.act_ok {S : SS} (ok : S.ok) {σ' : SG} (W : WF σ') : (S.act σ').ok := ⟨W, ok.2⟩
/-! the tape cleared, a byte more -/
def SS.clr (S : SS) : SS := ⟨S.σ, S.as, 0, fun _ => -1, S.lf, S.im⟩
theorem SS.clr_ok {S : SS} (ok : S.ok) : S.clr.ok := ⟨ok.1, Nat.zero_le _, fun _ => (by decide : (-1 : Int) ≤ -1 ∧ (-1 : Int) ≤ 255), fun i hi => absurd hi (Nat.not_lt_zero i), fun _ _ => rfl⟩
theorem tkT_0 {h : HH} (h5 : h 5 1 = 0) : tkT h = fun _ => -1 := by
  funext i; unfold tkT tkI; rw [h5, if_neg (by omega)]
theorem mtk_0 {h : HH} (h5 : h 47 7 = 0) : mtk h = fun _ => -1 := by
  funext i; unfold mtk; rw [h5, if_neg (by omega)]
theorem JC.clr {h h' : HH} {S : SS} (J : JC h S) (T : TapeClr h h') : JC h' S.clr ∧ Hi h h' := by
  obtain ⟨j1, j2, j3, j4, j5, j6, j7⟩ := J
  obtain ⟨t1, t2⟩ := T
  refine ⟨⟨?_, RA_keep j2 (fun j _ => by rw [t2 0 (by decide) (by decide) (by decide)]) (fun k k1 k2 => t2 k (by omega) (by omega) (by omega)), fun k hk => ?_, t1, ?_, tkT_0 t1, ?_⟩, fun k hk => t2 k (by omega) (by omega) (by omega)⟩
  · rw [t2 2 (by decide) (by decide) (by decide)]; exact j1
  · rw [t2 _ (by omega) (by omega) (by omega)]; exact j3 k hk
  · unfold TB; rw [t2 6 (by decide) (by decide) (by decide)]; exact j5
  · rw [t2 0 (by decide) (by decide) (by decide)]; exact j7
theorem JM.clr {h h' : HH} {S : SS} (J : JM h S) (T : TClrM h h') : JM h' S.clr ∧ Lo h h' := by
  obtain ⟨j1, j2, j3, j4, j5, j6⟩ := J
  obtain ⟨t1, t2, t3⟩ := T
  refine ⟨⟨?_, RPast_keep j2 (t3 3 (by decide)) (t2 50 (by decide) (by decide)), fun k hk => IM_fr (t2 51 (by decide) (by decide)) (t2 52 (by decide) (by decide)) (j3 k hk), t1, mtk_0 t1, ?_⟩, fun k hk => t2 k (by omega) (by omega)⟩
  · rw [t2 48 (by decide) (by decide)]; exact j1
  · rw [t3 14 (by decide)]; exact j6
def SS.fed (S : SS) (b : Int) : SS := ⟨S.σ, S.as, S.n + 1, fun i => if i = S.n then b else S.tk i, S.lf, S.im⟩
theorem SS.fed_ok {S : SS} (ok : S.ok) {b : Int} (hb : 0 ≤ b ∧ b ≤ 255) (hn : S.n < 90) : (S.fed b).ok := by
  obtain ⟨o1, o2, o3, o4, o5⟩ := ok
  refine ⟨o1, hn, fun i => ?_, fun i hi => ?_, fun i hi => ?_⟩
  · show -1 ≤ (if i = S.n then b else S.tk i) ∧ (if i = S.n then b else S.tk i) ≤ 255
    split
    · omega
    · exact o3 i
  · have hi : i < S.n + 1 := hi
    show 0 ≤ if i = S.n then b else S.tk i
    split
    · omega
    · exact o4 i (by omega)
  · have hi : S.n + 1 ≤ i := hi
    show (if i = S.n then b else S.tk i) = -1
    rw [if_neg (by omega)]
    exact o5 i (by omega)
theorem JC.fed {h : HH} {S : SS} (ok : S.ok) (J : JC h S) {b : Int} (hb : 0 ≤ b ∧ b ≤ 255) (hn : S.n < 90) : JC (up (up h 6 S.n b) 5 1 ((S.n : Int) + 1)) (S.fed b) ∧ Hi h (up (up h 6 S.n b) 5 1 ((S.n : Int) + 1)) := by
  have J' := J
  obtain ⟨j1, j2, j3, j4, j5, j6, j7⟩ := J
  have e : ∀ k, k ≠ 5 → k ≠ 6 → up (up h 6 S.n b) 5 1 ((S.n : Int) + 1) k = h k := fun k k1 k2 => by rw [up_ne _ _ _ k1, up_ne _ _ _ k2]
  have e5 : up (up h 6 S.n b) 5 1 ((S.n : Int) + 1) 5 1 = (S.n : Int) + 1 := up_same _ _ _ _
  have e6 : up (up h 6 S.n b) 5 1 ((S.n : Int) + 1) 6 = fun j => if j = S.n then b else h 6 j := by rw [up_ne _ _ _ (by decide), up_at]
  refine ⟨⟨?_, RA_keep j2 (fun j _ => by rw [e 0 (by decide) (by decide)]) (fun k k1 k2 => e k (by omega) (by omega)), fun k hk => ?_, e5, ?_, ?_, ?_⟩, fun k hk => e k (by omega) (by omega)⟩
  · rw [e 2 (by decide) (by decide)]; exact j1
  · rw [e _ (by omega) (by omega)]; exact j3 k hk
  · unfold TB; rw [e6]
    intro i hi
    show 0 ≤ (if i = S.n then b else h 6 i) ∧ (if i = S.n then b else h 6 i) ≤ 255
    split
    · exact hb
    · exact j5 i hi
  · funext i
    have j6i := congrFun j6 i
    show tkT _ i = if i = S.n then b else S.tk i
    unfold tkT tkI at j6i ⊢
    rw [e5, e6]
    rw [j4] at j6i
    rw [← j6i]
    by_cases q : i = S.n
    · rw [if_pos (by omega), if_pos q, show ((i : Int)).toNat = S.n by omega]; exact if_pos rfl
    · have r0 : (fun j => if j = S.n then b else h 6 j) i = h 6 i := if_neg q
      rw [if_neg q, show ((i : Int)).toNat = i by omega, r0]
      by_cases r : i < S.n
      · rw [if_pos (by omega), if_pos (by omega)]
      · rw [if_neg (by omega), if_neg (by omega)]
  · rw [e 0 (by decide) (by decide)]; exact j7
theorem JM.fed {h : HH} {S : SS} (J : JM h S) (b : Int) : JM (up (up h 53 S.n b) 47 7 ((S.n : Int) + 1)) (S.fed b) ∧ Lo h (up (up h 53 S.n b) 47 7 ((S.n : Int) + 1)) := by
  obtain ⟨j1, j2, j3, j4, j5, j6⟩ := J
  have e : ∀ k, k ≠ 47 → k ≠ 53 → up (up h 53 S.n b) 47 7 ((S.n : Int) + 1) k = h k := fun k k1 k2 => by rw [up_ne _ _ _ k1, up_ne _ _ _ k2]
  have e7 : ∀ j, j ≠ 7 → up (up h 53 S.n b) 47 7 ((S.n : Int) + 1) 47 j = h 47 j := fun j hj => by rw [up_at, up_ne _ _ _ (by decide)]; exact if_neg hj
  have e5 : up (up h 53 S.n b) 47 7 ((S.n : Int) + 1) 47 7 = (S.n : Int) + 1 := up_same _ _ _ _
  have e6 : up (up h 53 S.n b) 47 7 ((S.n : Int) + 1) 53 = fun j => if j = S.n then b else h 53 j := by rw [up_ne _ _ _ (by decide), up_at]
  refine ⟨⟨?_, RPast_keep j2 (e7 3 (by decide)) (e 50 (by decide) (by decide)), fun k hk => IM_fr (e 51 (by decide) (by decide)) (e 52 (by decide) (by decide)) (j3 k hk), e5, ?_, ?_⟩, fun k hk => e k (by omega) (by omega)⟩
  · rw [e 48 (by decide) (by decide)]; exact j1
  · funext i
    have j6i := congrFun j5 i
    show mtk _ i = if i = S.n then b else S.tk i
    unfold mtk at j6i ⊢
    rw [e5, e6]
    rw [j4] at j6i
    rw [← j6i]
    by_cases q : i = S.n
    · rw [if_pos (by omega), if_pos q]; exact if_pos q
    · rw [if_neg q]
      by_cases r : i < S.n
      · rw [if_pos (by omega), if_pos (by omega)]; exact if_neg q
      · rw [if_neg (by omega), if_neg (by omega)]
  · rw [e7 14 (by decide)]; exact j6
/-! pairs -/
abbrev CnX (mk : Int → AV) (M : MD) (g : GG) (av : List AV) (h : HH) (P : Int → HH → Prop) : Prop := Cn M g av h (fun r h' => ∃ z, r = some (mk z) ∧ P z h')
def PrX (mk : Int → AV) (M1 M2 : MD) (g : GG) (av : List AV) (h : HH) : Prop := ∃ P1, CnX mk M1 g (vr 0 :: av) h P1 ∧ ∀ z h1, P1 z h1 → ∃ P2, CnX mk M2 g (vr 47 :: av) h1 P2 ∧ ∀ w h2, P2 w h2 → w = z ∧ JJ h2
theorem prX {mk : Int → AV} {M1 M2 : MD} {g : GG} {av : List AV} {h : HH} {S S' : SS} {P1 : Int → HH → Prop} {P2 : HH → Int → HH → Prop} (A B : Int → Prop) (m : JM h S) (ok' : S'.ok) (c1 : CnX mk M1 g (vr 0 :: av) h P1) (q1 : ∀ z h1, P1 z h1 → A z ∧ JC h1 S' ∧ Hi h h1) (c2 : ∀ h1, JM h1 S → CnX mk M2 g (vr 47 :: av) h1 (P2 h1)) (q2 : ∀ h1 w h2, JM h1 S → P2 h1 w h2 → B w ∧ JM h2 S' ∧ Lo h1 h2) (hu : ∀ z w, A z → B w → w = z) : PrX mk M1 M2 g av h := by
  refine ⟨P1, c1, fun z h1 p1 => ?_⟩
  obtain ⟨a, j1, hi⟩ := q1 z h1 p1
  have jm := m.hi hi
  refine ⟨P2 h1, c2 h1 jm, fun w h2 p2 => ?_⟩
  obtain ⟨b, j2, lo⟩ := q2 h1 w h2 jm p2
  exact ⟨hu z w a b, S', ok', j1.lo lo, j2⟩
/-- readers -/
theorem prEI {M1 M2 : MD} {g : GG} {av : List AV} {h : HH} {S : SS} {z : Int} (ok : S.ok) (j : JC h S) (m : JM h S) (c1 : CeI M1 g (vr 0 :: av) h z) (c2 : ∀ h1, JM h1 S → CeI M2 g (vr 47 :: av) h1 z) : PrX vi M1 M2 g av h :=
  prX (mk := vi) (S := S) (S' := S) (P1 := fun y h' => y = z ∧ h' = h) (P2 := fun h1 y h' => y = z ∧ h' = h1) (fun y => y = z) (fun y => y = z) m ok c1 (fun y h1 q => ⟨q.1, by rw [q.2]; exact j, by rw [q.2]; exact fun _ _ => rfl⟩) c2 (fun h1 y h2 m1 q => ⟨q.1, by rw [q.2]; exact m1, by rw [q.2]; exact fun _ _ => rfl⟩) (fun a b h1 h2 => by rw [h1, h2])
theorem prEL {M1 M2 : MD} {g : GG} {av : List AV} {h : HH} {S : SS} {z : Int} (ok : S.ok) (j : JC h S) (m : JM h S) (c1 : CeL M1 g (vr 0 :: av) h z) (c2 : ∀ h1, JM h1 S → CeL M2 g (vr 47 :: av) h1 z) : PrX vl M1 M2 g av h :=
  prX (mk := vl) (S := S) (S' := S) (P1 := fun y h' => y = z ∧ h' = h) (P2 := fun h1 y h' => y = z ∧ h' = h1) (fun y => y = z) (fun y => y = z) m ok c1 (fun y h1 q => ⟨q.1, by rw [q.2]; exact j, by rw [q.2]; exact fun _ _ => rfl⟩) c2 (fun h1 y h2 m1 q => ⟨q.1, by rw [q.2]; exact m1, by rw [q.2]; exact fun _ _ => rfl⟩) (fun a b h1 h2 => by rw [h1, h2])
/-- readers of one answer among some -/
theorem prPI {M1 M2 : MD} {g : GG} {av : List AV} {h : HH} {S : SS} {A B : Int → Prop} (ok : S.ok) (j : JC h S) (m : JM h S) (c1 : CpI M1 g (vr 0 :: av) h A) (c2 : ∀ h1, JM h1 S → CpI M2 g (vr 47 :: av) h1 B) (hu : ∀ z w, A z → B w → w = z) : PrX vi M1 M2 g av h :=
  prX (mk := vi) (S := S) (S' := S) (P1 := fun y h' => A y ∧ h' = h) (P2 := fun h1 y h' => B y ∧ h' = h1) A B m ok c1 (fun y h1 q => ⟨q.1, by rw [q.2]; exact j, by rw [q.2]; exact fun _ _ => rfl⟩) c2 (fun h1 y h2 m1 q => ⟨q.1, by rw [q.2]; exact m1, by rw [q.2]; exact fun _ _ => rfl⟩) hu
/-- acts -/
theorem prA {M1 M2 : MD} {g : GG} {av : List AV} {h : HH} {S : SS} {z : Int} {σ' : SG} (ok : S.ok) (j : JC h S) (m : JM h S) (W : WF σ') (c1 : CnI M1 g (vr 0 :: av) h (fun y h' => y = z ∧ ActP h h' S.σ S.as σ')) (c2 : ∀ h1, JM h1 S → CnI M2 g (vr 47 :: av) h1 (fun y h' => y = z ∧ ActM h1 h' S.σ S.as σ')) : PrX vi M1 M2 g av h :=
  prX (mk := vi) (S := S) (S' := S.act σ') (P1 := fun y h' => y = z ∧ ActP h h' S.σ S.as σ') (P2 := fun h1 y h' => y = z ∧ ActM h1 h' S.σ S.as σ') (fun y => y = z) (fun y => y = z) m (S.act_ok ok W) c1 (fun y h1 q => ⟨q.1, j.act q.2⟩) c2 (fun h1 y h2 m1 q => ⟨q.1, m1.act q.2⟩) (fun a b h1 h2 => by rw [h1, h2])
/-- mathematics -/
theorem prG {mk : Int → AV} {M1 M2 : MD} {g : GG} {av : List AV} {h : HH} {S : SS} {A B : Int → Prop} (ok : S.ok) (j : JC h S) (m : JM h S) (c1 : CnX mk M1 g (vr 0 :: av) h (fun y h' => GF h h' ∧ A y)) (c2 : ∀ h1, JM h1 S → CnX mk M2 g (vr 47 :: av) h1 (fun y h' => F54 h1 h' ∧ B y)) (hu : ∀ z w, A z → B w → w = z) : PrX mk M1 M2 g av h :=
  prX (S := S) (S' := S) (P2 := fun h1 y h' => F54 h1 h' ∧ B y) A B m ok c1 (fun y h1 q => ⟨q.2, j.gf q.1⟩) c2 (fun h1 y h2 m1 q => ⟨q.2, m1.rf q.1.rf⟩) hu
theorem prR {mk : Int → AV} {M1 M2 : MD} {g : GG} {av : List AV} {h : HH} {S : SS} {A B : Int → Prop} (ok : S.ok) (j : JC h S) (m : JM h S) (c1 : CnX mk M1 g (vr 0 :: av) h (fun y h' => GS h h' ∧ A y)) (c2 : ∀ h1, JM h1 S → CnX mk M2 g (vr 47 :: av) h1 (fun y h' => RFm h1 h' ∧ B y)) (hu : ∀ z w, A z → B w → w = z) : PrX mk M1 M2 g av h :=
  prX (S := S) (S' := S) (P2 := fun h1 y h' => RFm h1 h' ∧ B y) A B m ok c1 (fun y h1 q => ⟨q.2, j.gs q.1⟩) c2 (fun h1 y h2 m1 q => ⟨q.2, m1.rf q.1⟩) hu

/-! FLOATS: what share computes is no NaN. -/
theorem n32_of {r : UInt32} (h : Jvm.FP.Core.val32 r ≠ .nan) : vf_n32 r := by
  have h1 : ¬ Jvm.FP.Core.infBits Jvm.FP.Core.b32 < Jvm.FP.Core.mag Jvm.FP.Core.b32 r.toNat := fun q => h ((Jvm.FP.Core.decode_nan r.toNat).mpr q)
  have e1 : Jvm.FP.Core.infBits Jvm.FP.Core.b32 = 2139095040 := by decide
  have e2 : Jvm.FP.Core.mag Jvm.FP.Core.b32 r.toNat = r.toNat % 2 ^ 31 := by
    unfold Jvm.FP.Core.mag
    rw [show Jvm.FP.Core.half Jvm.FP.Core.b32 = 2 ^ 31 from by decide]
  rw [e1, e2] at h1
  unfold vf_n32
  rw [UInt32.le_iff_toNat_le, UInt32.toNat_and, show (0x7fffffff : UInt32).toNat = 2 ^ 31 - 1 from rfl, Nat.and_two_pow_sub_one_eq_mod, show (0x7f800000 : UInt32).toNat = 2139095040 from rfl]
  omega
theorem l2f_fin {x : Int} (hx : R64 x) : ∃ c q, Jvm.FP.Core.val32 (FP.l2f (lI x)) = .fin (decide (x < 0)) c q ∧ (x ≠ 0 → c ≠ 0) := by
  have hd : Jvm.FP.Core.val32 (FP.l2f (lI x)) = Jvm.FP.Core.roundRatio Jvm.FP.Core.b32 (decide (x < 0)) x.natAbs 1 0 := by
    have := Jvm.FP.Core.val32_l2f (lI x)
    rw [lI_toInt hx] at this
    exact this
  have hd2 : Jvm.FP.Core.decode Jvm.FP.Core.b32 (Jvm.FP.Core.fromInt Jvm.FP.Core.b32 x) = Jvm.FP.Core.roundRatio Jvm.FP.Core.b32 (decide (x < 0)) x.natAbs 1 0 := Jvm.FP.Core.decode_enc Jvm.FP.Core.good_b32 (Jvm.FP.Core.round_fits Jvm.FP.Core.good_b32 _)
  have m1 := Jvm.FP.Core.int_mag Jvm.FP.Core.good_b32 (i := x) (j := 63) (K := 190) (by omega) (by decide) (by decide)
  have m2 : Jvm.FP.Core.mag Jvm.FP.Core.b32 (Jvm.FP.Core.fromInt Jvm.FP.Core.b32 x) < Jvm.FP.Core.infBits Jvm.FP.Core.b32 := Nat.lt_of_le_of_lt m1 (by decide)
  obtain ⟨c, q, h1, h2⟩ := Jvm.FP.Core.decode_fin m2
  have s1 := Jvm.FP.Core.sgn_roundRatio Jvm.FP.Core.b32 (decide (x < 0)) x.natAbs 1 0
  rw [← hd2, h1] at s1
  have s1 : Jvm.FP.Core.fieldS Jvm.FP.Core.b32 (Jvm.FP.Core.fromInt Jvm.FP.Core.b32 x) = decide (x < 0) := s1
  refine ⟨c, q, by rw [hd, ← hd2, h1, s1], fun x0 c0 => ?_⟩
  have m3 := Jvm.FP.Core.int_mag_ge Jvm.FP.Core.good_b32 (i := x) (K := 1) x0 (by decide) (by decide) (by decide)
  subst c0
  have z0 : Jvm.FP.Core.unitsOf Jvm.FP.Core.b32 (Jvm.FP.Core.mag Jvm.FP.Core.b32 (Jvm.FP.Core.fromInt Jvm.FP.Core.b32 x)) = 0 := by
    rw [← h2]
    simp [Jvm.FP.Core.inUnits]
  rw [Jvm.FP.Core.unitsOf_eq_zero] at z0
  rw [z0] at m3
  exact absurd m3 (by decide)
theorem fdiv_ok {x y : Int} (hx : R64 x) (hy : R64 y) (h0 : y ≠ 0) : Jvm.FP.Core.val32 (FP.fdiv (FP.l2f (lI x)) (FP.l2f (lI y))) ≠ .nan := by
  obtain ⟨c, q, h1, -⟩ := l2f_fin hx
  obtain ⟨d, r, h2, h3⟩ := l2f_fin hy
  show Jvm.FP.Core.val32 (Jvm.FP.Core.fdiv _ _) ≠ .nan
  rw [Jvm.FP.Core.val32_fdiv, h1, h2]
  unfold Jvm.FP.Core.quotient
  simp only
  rw [if_neg (h3 h0)]
  exact Jvm.FP.Core.roundRatio_ne_nan _ _ _ _ _
theorem fmul_ok {a b : UInt32} (ha : Jvm.FP.Core.val32 a ≠ .nan) {s : Bool} {c : Nat} {q : Int} (hb : Jvm.FP.Core.val32 b = .fin s c q) (hc : c ≠ 0) : Jvm.FP.Core.val32 (FP.fmul a b) ≠ .nan := by
  show Jvm.FP.Core.val32 (Jvm.FP.Core.fmul _ _) ≠ .nan
  rw [Jvm.FP.Core.val32_fmul, hb]
  cases hv : Jvm.FP.Core.val32 a with
  | nan => exact absurd hv ha
  | inf t =>
    unfold Jvm.FP.Core.exactProduct
    simp only
    rw [if_neg hc]
    unfold Jvm.FP.Core.round
    intro h; cases h
  | fin t d r =>
    unfold Jvm.FP.Core.exactProduct Jvm.FP.Core.round
    exact Jvm.FP.Core.roundRatio_ne_nan _ _ _ _ _
theorem f1000 : Jvm.FP.Core.val32 1148846080 = .fin false 16384000 (-14) := by decide +kernel
/-- what share answers of a fraction -/
def shv (p q : Int) : Int := (FP.f2i (FP.fmul (FP.fdiv (FP.l2f (lI p)) (FP.l2f (lI q))) 1148846080)).toInt
theorem shv_n1 {p q : Int} (hp : R64 p) (hq : R64 q) (h0 : q ≠ 0) : vf_n32 (FP.fdiv (FP.l2f (lI p)) (FP.l2f (lI q))) := n32_of (fdiv_ok hp hq h0)
theorem shv_n2 {p q : Int} (hp : R64 p) (hq : R64 q) (h0 : q ≠ 0) : vf_n32 (FP.fmul (FP.fdiv (FP.l2f (lI p)) (FP.l2f (lI q))) 1148846080) := n32_of (fmul_ok (fdiv_ok hp hq h0) f1000 (by decide))

theorem up_s {h : HH} {k : Nat} {f : Nat → Int} {z : Int} {i : Nat} (hz : z = (i : Int)) (v : Int) : up (setc h k f) k z.toNat v = setc h k (upn f i v) := by
  subst hz; exact up_setc h k i f v
theorem up_n {h : HH} {k : Nat} {z : Int} {i : Nat} (hz : z = (i : Int)) (v : Int) : up h k z.toNat v = setc h k (upn (h k) i v) := by
  subst hz; exact up_eq h k i v
theorem up_o (h : HH) {k i j : Nat} (v : Int) (n : i ≠ j) : up h k j v k i = h k i := by simp [up, n]
theorem pWord_0t {σ : SG} {tk : Nat → Int} {n : Nat} {le : Nat → Nat} {sg : Nat → Bool} {i : Nat} (h : wcl σ n le sg) : pWord σ tk 0 n le sg i = some (n, le, sg) := if_pos h
theorem pWord_0f {σ : SG} {tk : Nat → Int} {n : Nat} {le : Nat → Nat} {sg : Nat → Bool} {i : Nat} (h : ¬ wcl σ n le sg) : pWord σ tk 0 n le sg i = none := if_neg h

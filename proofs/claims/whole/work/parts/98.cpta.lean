/-! THE CLASS'S PARTS, LENGTHS, SHARES. -/
theorem tk_len {σ : SG} {c : Nat} {h' : HH} {y : Nat → Int} (tM : ∀ e, e < sE σ → h' 20 e = sch σ c e ∧ h' 21 e = msr σ e) (tY : ∀ e, e < sE σ → h' 19 e = y e) : ipw (sE σ) (h' 21) (h' 19) (h' 20) = ipw (sE σ) (msr σ) y (sch σ c) :=
  sI_congr fun e he => by rw [(tM e he).1, (tM e he).2, tY e he]

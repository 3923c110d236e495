set_option maxRecDepth 100000 in
set_option maxHeartbeats 4000000 in
theorem c_X5_gcd {g : GG} {h : HH} {a b : Int} (ha : -9223372036854775808 < a ∧ a < 9223372036854775808) (hb : -9223372036854775808 < b ∧ b < 9223372036854775808) : CeL mX5_gcd g [vl a, vl b] h (Int.gcd a b : Int) := by
  refine cn_q (lv := [vl a, vx, vl b, vx, vx, vx, vx, vx, vx, vx, vx]) tX5_gcd.1 rfl rfl (fun hR Q hQ => ?_)
  refine z_lload_n dX5_gcd_0 rfl ?_
  refine z_labs kAbs5 dX5_gcd_1 (by omega) ⟨by decide, by decide⟩ (Nat.le_of_ble_eq_true rfl) ?_
  refine z_lstore dX5_gcd_4 (by decide) rfl ?_
  refine z_lload_n dX5_gcd_6 rfl ?_
  refine z_labs kAbs5 dX5_gcd_7 (by omega) ⟨by decide, by decide⟩ (Nat.le_of_ble_eq_true rfl) ?_
  refine z_lstore dX5_gcd_10 (by decide) rfl ?_
  refine z_iconst dX5_gcd_12 ?_
  refine z_istore dX5_gcd_13 (by decide) rfl ?_
  have loop15 : ∀ (nL9 : Nat) (k : Nat) (x : Nat) (y : Nat), (k ≤ 200) → (Nat.gcd x y = Int.gcd a b) → (x < 2 ^ 63 ∧ y < 2 ^ 63) → (k = 0 ∨ (1 ≤ k ∧ y < x ∧ x * y * 2 ^ (k - 1) ≤ 2 ^ 126)) → 200 - k < nL9 → Z mX5_gcd g 15 [vl a, vx, vl b, vx, vl (x : Int), vx, vl (y : Int), vx, vi (k : Int), vx, vx] [] h Q := by
    intro nL9
    induction nL9 with
    | zero => intro k x y hk hG hx hI hnL9; exact absurd hnL9 (Nat.not_lt_zero _)
    | succ nL9 ih15 =>
      intro k x y hk hG hx hI hnL9
      refine z_iload dX5_gcd_15 rfl ?_
      refine z_sipush dX5_gcd_17 (by decide) ?_
      refine z_icmp_ge 51 dX5_gcd_20 (by decide) (by omega) (by omega) (fun c20 => ?_) (fun c20 => ?_)
      · refine z_lload dX5_gcd_51 rfl ?_
        exact z_lreturn dX5_gcd_53 rfl (hQ _ _ ⟨_, rfl, (by
  have hk200 : k = 200 := by omega
  subst hk200
  rcases hI with q | ⟨-, q1, q2⟩
  · omega
  · have := gcd_end q1 q2
    subst this
    rw [← hG, Nat.gcd_zero_right]), rfl⟩)
      · refine z_lload dX5_gcd_23 rfl ?_
        refine z_lconst (z := 0) dX5_gcd_25 rfl ?_
        refine z_lcmp dX5_gcd_26 (by omega) (by decide) ?_
        refine z_if_eq 51 dX5_gcd_27 (by decide) (icmp_r _ _) (fun c27 => ?_) (fun c27 => ?_)
        · have c27 := icmp_eq.mp c27
          refine z_lload dX5_gcd_51 rfl ?_
          exact z_lreturn dX5_gcd_53 rfl (hQ _ _ ⟨_, rfl, (by
  have : y = 0 := by omega
  subst this
  rw [← hG, Nat.gcd_zero_right]), rfl⟩)
        · have c27 := icmp_ne.mp c27
          refine z_lload dX5_gcd_30 rfl ?_
          refine z_lload dX5_gcd_32 rfl ?_
          refine z_lrem dX5_gcd_34 (by omega) (by omega) (by omega) ?_
          rw [show (x : Int).tmod (y : Int) = ((x % y : Nat) : Int) from rfl]
          have my := Nat.mod_lt x (show 0 < y by omega)
          refine z_lstore dX5_gcd_35 (by decide) rfl ?_
          refine z_lload dX5_gcd_37 rfl ?_
          refine z_lstore dX5_gcd_39 (by decide) rfl ?_
          refine z_lload dX5_gcd_41 rfl ?_
          refine z_lstore dX5_gcd_43 (by decide) rfl ?_
          refine z_iinc dX5_gcd_45 rfl (by decide) rfl ?_
          refine z_goto 15 dX5_gcd_48 (by decide) ?_
          refine z_forget 9 ?_
          exact ih15 (k + 1) y (x % y) (by omega) (by rw [Nat.gcd_comm, ← Nat.gcd_rec, Nat.gcd_comm]; exact hG) (by omega) (Or.inr ⟨by omega, my, by
            rcases hI with q | ⟨q0, q1, q2⟩
            · subst q; exact gcd_first hx.1 hx.2 (by omega)
            · exact gcd_step q1 (by omega) q0 q2⟩) (by omega)
  exact loop15 _ 0 a.natAbs b.natAbs (by omega) rfl (by omega) (Or.inl rfl) (Nat.lt_succ_self _)

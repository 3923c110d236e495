set_option maxRecDepth 100000 in
set_option maxHeartbeats 4000000 in
theorem c_X2_solveSystem {g : GG} {h : HH} {n : Nat} {G : Nat → Nat → Int} (hn5 : n ≤ 5) (hn : h 18 6 = n) (hG : ∀ r s, r < n → s ≤ n → h (29 + r) s = G r s) (H : HN n G) (hz : ∀ S k, GI n G S k → k < n → XS n S G k k = 0 → GI n G S (k + 1)) (hz2 : ∀ S k, GI n G S k → k < n → XS n S G k k ≠ 0 → GI n G (addS S k) (k + 1)) (hd : ∀ S, (dT n (KS S G)).natAbs < 2 ^ 63) : CnV mX2_solveSystem g [vr 18] h (fun h' => ∃ S, SLV h h' n G S) := by
  refine cn_q (lv := [vr 18, vx, vx, vx, vx, vx, vx]) tX2_solveSystem.1 rfl rfl (fun hR Q hQ => ?_)
  refine z_lconst (z := 1) dX2_solveSystem_0 rfl ?_
  refine z_lstore_n dX2_solveSystem_1 (by decide) rfl ?_
  refine z_iconst dX2_solveSystem_2 ?_
  refine z_istore_n dX2_solveSystem_3 (by decide) rfl ?_
  have loop4 : ∀ (nL9 : Nat) (k : Nat) (S : Nat → Bool) (h1 : HH), (k ≤ n) → (GI n G S k) → (SY h h1 n G S) → n - k < nL9 → Z mX2_solveSystem g 4 [vr 18, vl (dT n (KS S G)), vx, vi (k : Int), vx, vx, vx] [] h1 Q := by
    intro nL9
    induction nL9 with
    | zero => intro k S h1 hk I L hnL9; exact absurd hnL9 (Nat.not_lt_zero _)
    | succ nL9 ih4 =>
      intro k S h1 hk I L hnL9
      refine z_iload_n dX2_solveSystem_4 rfl ?_
      refine z_aload_n dX2_solveSystem_5 rfl ?_
      refine z_getI fX2_34 dX2_solveSystem_6 (by decide) rfl rfl (fun r6 => ?_)
      rw [show h1 18 6 = n from by rw [L.1 18 (by decide)]; exact hn]
      refine z_icmp_ge 73 dX2_solveSystem_9 (by decide) (by omega) (by omega) (fun c9 => ?_) (fun c9 => ?_)
      · refine z_aload_n dX2_solveSystem_73 rfl ?_
        refine z_lload_n dX2_solveSystem_74 rfl ?_
        refine z_putJ pX2_43 dX2_solveSystem_75 (by decide) rfl rfl (by have := hd S; omega) ?_
        exact z_return dX2_solveSystem_78 rfl (hQ _ _ ⟨rfl, ⟨S, (show k = n from by omega) ▸ I, by rw [up_same], fun r s hr hs => by rw [up_ne _ _ _ (by omega)]; exact L.2 r s hr hs, fun q q1 q2 => by rw [up_ne _ _ _ q1]; exact L.1 q q2, fun q hq => by rw [up_o _ _ hq, L.1 18 (by decide)]⟩⟩)
      · refine z_aload_n dX2_solveSystem_12 rfl ?_
        refine z_getR fX2_37 dX2_solveSystem_13 (by decide) rfl rfl ?_
        refine z_iload_n dX2_solveSystem_16 rfl ?_
        refine z_aaloadJ dX2_solveSystem_17 (by decide) rfl (by omega) (by omega) (by decide) ?_
        have hk5 : k < 5 := by omega
        rw [show 29 + ((k : Nat) : Int).toNat = 29 + k from rfl]
        refine z_iload_n dX2_solveSystem_18 rfl ?_
        refine z_laload dX2_solveSystem_19 (by omega) (shpY hk5) (by omega) (by omega) (by first | decide | omega) (fun r19 => ?_)
        rw [show h1 (29 + k) (k : Int).toNat = XS n S G k k from L.2 k k (by omega) (by omega)] at r19 ⊢
        refine z_lstore dX2_solveSystem_20 (by decide) rfl ?_
        refine z_lload dX2_solveSystem_22 rfl ?_
        refine z_lconst (z := 0) dX2_solveSystem_24 rfl ?_
        refine z_lcmp dX2_solveSystem_25 r19 (by decide) ?_
        refine z_if_ne 32 dX2_solveSystem_26 (by decide) (icmp_r _ _) (fun c26 => ?_) (fun c26 => ?_)
        · have c26 := icmp_ne.mp c26
          refine z_iconst dX2_solveSystem_32 ?_
          refine z_istore dX2_solveSystem_33 (by decide) rfl ?_
          have loop35 : ∀ (nL9 : Nat) (j : Nat) (h1 : HH), (j ≤ n) → (SYp h h1 n G S k j) → n - j < nL9 → Z mX2_solveSystem g 35 [vr 18, vl (dT n (KS S G)), vx, vi (k : Int), vl (XS n S G k k), vx, vi (j : Int)] [] h1 Q := by
            intro nL9
            induction nL9 with
            | zero => intro j h1 hj P hnL9; exact absurd hnL9 (Nat.not_lt_zero _)
            | succ nL9 ih35 =>
              intro j h1 hj P hnL9
              refine z_iload dX2_solveSystem_35 rfl ?_
              refine z_aload_n dX2_solveSystem_37 rfl ?_
              refine z_getI fX2_34 dX2_solveSystem_38 (by decide) rfl rfl (fun r38 => ?_)
              rw [show h1 18 6 = n from by rw [P.1 18 (by decide)]; exact hn]
              refine z_icmp_ge 64 dX2_solveSystem_41 (by decide) (by omega) (by omega) (fun c41 => ?_) (fun c41 => ?_)
              · refine z_lload dX2_solveSystem_64 rfl ?_
                refine z_lstore_n dX2_solveSystem_66 (by decide) rfl ?_
                refine z_iinc dX2_solveSystem_67 rfl (by decide) rfl ?_
                refine z_goto 4 dX2_solveSystem_70 (by decide) ?_
                have x0 := ih4 (k + 1) (addS S k) _ (by omega) (hz2 S k I (by omega) c26) (P.end (by omega)) (by omega)
                rw [ds_add (by omega) S G] at x0
                refine z_forget 4 ?_
                refine z_forget 6 ?_
                exact x0
              · refine z_iload dX2_solveSystem_44 rfl ?_
                refine z_iload_n dX2_solveSystem_46 rfl ?_
                refine z_icmp_eq 58 dX2_solveSystem_47 (by decide) (by omega) (by omega) (fun c47 => ?_) (fun c47 => ?_)
                · refine z_iinc dX2_solveSystem_58 rfl (by decide) rfl ?_
                  refine z_goto 35 dX2_solveSystem_61 (by decide) ?_
                  have hjk : j = k := by omega
                  subst hjk
                  exact ih35 (j + 1) h1 (by omega) P.skip (by omega)
                · refine z_aload_n dX2_solveSystem_50 rfl ?_
                  refine z_iload dX2_solveSystem_51 rfl ?_
                  refine z_iload_n dX2_solveSystem_53 rfl ?_
                  refine z_lload_n dX2_solveSystem_54 rfl ?_
                  refine z_callV_V (M := mX2_solveSystem) [_, _, _] tX2_eliminate kX2_100 dX2_solveSystem_55 ⟨by decide, rfl, _, _, rfl⟩ ⟨by decide, by decide⟩ rfl (Nat.le_of_ble_eq_true rfl) rfl (c_X2_eliminate (r := j) (k := k) (n := n) (by omega) (by omega) (by omega) hn5 (by rw [P.1 18 (by decide)]; exact hn) (by have := hd S; omega) (by have := I.2.1; omega) (fun s hs => ⟨(sol_q P H I (by omega) (by omega) (by omega) c26 hs).1, (sol_q P H I (by omega) (by omega) (by omega) c26 hs).2.2⟩)) (fun h55 q55 => ?_)
                  rw [q55]
                  refine z_iinc dX2_solveSystem_58 rfl (by decide) rfl ?_
                  refine z_goto 35 dX2_solveSystem_61 (by decide) ?_
                  exact ih35 (j + 1) _ (by omega) (P.put hn5 H I (by omega) (by omega) (by omega) c26) (by omega)
          exact loop35 _ 0 h1 (by omega) (L.start k) (Nat.lt_succ_self _)
        · have c26 := icmp_eq.mp c26
          refine z_goto 67 dX2_solveSystem_29 (by decide) ?_
          refine z_iinc dX2_solveSystem_67 rfl (by decide) rfl ?_
          refine z_goto 4 dX2_solveSystem_70 (by decide) ?_
          refine z_forget 4 ?_
          exact ih4 (k + 1) S h1 (by omega) (hz S k I (by omega) c26) L (by omega)
  have x0 := loop4 _ 0 noS h (by omega) (gi_0 n G).1 ⟨fun _ _ => rfl, fun r s hr hs => by rw [(gi_0 n G).2.2 r s hr]; exact hG r s hr hs⟩ (Nat.lt_succ_self _)
  rw [(gi_0 n G).2.1] at x0
  exact x0

/-! CONSTRUCTORS without others in them -/
set_option maxRecDepth 100000 in
set_option maxHeartbeats 4000000 in
theorem c_X0_init (g : GG) (h0 : Nat) : KC yX0_init cX0_init { frames := 1, cells := 1, slots := 63, locals := 12 } g h0 [(h0, .inr (0, [.null]))] (fun r : Nat → Nat => [(h0, .inr (0, [.ref (r 0)])), ((r 0), .inl (g.2.1 0, (63, .inl (fun _ => 0))))]) 1 63 := by
  refine kc_of (by decide +kernel) rfl ?_
  refine k_aload dX0_init_0 ?_
  refine k_obj dX0_init_1 (lwm 36 (by decide +kernel) (by decide +kernel)) (lwm 29 (by decide +kernel) (by decide +kernel)) (lwm 30 (by decide +kernel) (by decide +kernel)) ⟨by decide, by decide⟩ ?_
  refine k_aload dX0_init_4 ?_
  refine k_bipush (v := 63) dX0_init_5 (by decide) ?_
  refine k_newa (at9 := .int) (ty := .int) (kd := 0) (N := 63) (a0 := (63, .inl (fun _ => 0))) rfl (lwm 41 (by decide +kernel) (by decide +kernel)) (fun _ => rfl) (fun s c1 c2 a b => Option.some.inj (a.symm.trans b)) (fun _ => rfl) (by decide) (by decide) (by decide) (by decide) (by decide) dX0_init_7 (fun q1 => ?_)
  refine k_put (ci := 0) (C := RX0) (T := TX0) (N := 1) (j := 0) rfl (by decide) (lwm 37 (by decide +kernel) (by decide +kernel)) rfl rfl rfl rfl rfl (Nat.le_of_ble_eq_true rfl) 0 rfl dX0_init_9 (ws1 := [(h0, .inr (0, [.ref q1])), (q1, .inl (g.2.1 0, (63, .inl (fun _ => 0))))]) rfl ?_
  exact k_ret (fun i => [q1].getD i 0) rfl dX0_init_12
set_option maxRecDepth 100000 in
set_option maxHeartbeats 4000000 in
theorem c_X3_init (g : GG) (h0 : Nat) : KC yX3_init cX3_init { frames := 1, cells := 1, slots := 90, locals := 12 } g h0 [(h0, .inr (3, [.null, .int 0, .int 0, .int 0]))] (fun r : Nat → Nat => [(h0, .inr (3, [.ref (r 0), .int 0, .int 0, .int 0])), ((r 0), .inl (g.2.1 0, (90, .inl (fun _ => 0))))]) 1 90 := by
  refine kc_of (by decide +kernel) rfl ?_
  refine k_aload dX3_init_0 ?_
  refine k_obj dX3_init_1 (lwm 47 (by decide +kernel) (by decide +kernel)) (lwm 29 (by decide +kernel) (by decide +kernel)) (lwm 30 (by decide +kernel) (by decide +kernel)) ⟨by decide, by decide⟩ ?_
  refine k_aload dX3_init_4 ?_
  refine k_bipush (v := 90) dX3_init_5 (by decide) ?_
  refine k_newa (at9 := .int) (ty := .int) (kd := 0) (N := 90) (a0 := (90, .inl (fun _ => 0))) rfl (lwm 41 (by decide +kernel) (by decide +kernel)) (fun _ => rfl) (fun s c1 c2 a b => Option.some.inj (a.symm.trans b)) (fun _ => rfl) (by decide) (by decide) (by decide) (by decide) (by decide) dX3_init_7 (fun q1 => ?_)
  refine k_put (ci := 3) (C := RX3) (T := TX3) (N := 4) (j := 0) rfl (by decide) (lwm 48 (by decide +kernel) (by decide +kernel)) rfl rfl rfl rfl rfl (Nat.le_of_ble_eq_true rfl) 0 rfl dX3_init_9 (ws1 := [(h0, .inr (3, [.ref q1, .int 0, .int 0, .int 0])), (q1, .inl (g.2.1 0, (90, .inl (fun _ => 0))))]) rfl ?_
  refine k_aload dX3_init_12 ?_
  refine k_iconst (v := 0) dX3_init_13 (by decide) ?_
  refine k_putv (ci := 3) (C := RX3) (T := TX3) (N := 4) (j := 1) rfl (by decide) (lwm 49 (by decide +kernel) (by decide +kernel)) rfl rfl rfl rfl (Nat.le_of_ble_eq_true rfl) 0 rfl dX3_init_14 (ws1 := [(h0, .inr (3, [.ref q1, .int 0, .int 0, .int 0])), (q1, .inl (g.2.1 0, (90, .inl (fun _ => 0))))]) rfl ?_
  refine k_aload dX3_init_17 ?_
  refine k_iconst (v := 0) dX3_init_18 (by decide) ?_
  refine k_putv (ci := 3) (C := RX3) (T := TX3) (N := 4) (j := 2) rfl (by decide) (lwm 50 (by decide +kernel) (by decide +kernel)) rfl rfl rfl rfl (Nat.le_of_ble_eq_true rfl) 0 rfl dX3_init_19 (ws1 := [(h0, .inr (3, [.ref q1, .int 0, .int 0, .int 0])), (q1, .inl (g.2.1 0, (90, .inl (fun _ => 0))))]) rfl ?_
  refine k_aload dX3_init_22 ?_
  refine k_iconst (v := 0) dX3_init_23 (by decide) ?_
  refine k_putv (ci := 3) (C := RX3) (T := TX3) (N := 4) (j := 3) rfl (by decide) (lwm 51 (by decide +kernel) (by decide +kernel)) rfl rfl rfl rfl (Nat.le_of_ble_eq_true rfl) 0 rfl dX3_init_24 (ws1 := [(h0, .inr (3, [.ref q1, .int 0, .int 0, .int 0])), (q1, .inl (g.2.1 0, (90, .inl (fun _ => 0))))]) rfl ?_
  exact k_ret (fun i => [q1].getD i 0) rfl dX3_init_27
set_option maxRecDepth 100000 in
set_option maxHeartbeats 4000000 in
theorem c_X4_init (g : GG) (h0 : Nat) : KC yX4_init cX4_init { frames := 1, cells := 1, slots := 4, locals := 12 } g h0 [(h0, .inr (4, [.null, .int 0]))] (fun r : Nat → Nat => [(h0, .inr (4, [.ref (r 0), .int 0])), ((r 0), .inl (g.2.1 0, (4, .inl (fun _ => 0))))]) 1 4 := by
  refine kc_of (by decide +kernel) rfl ?_
  refine k_aload dX4_init_0 ?_
  refine k_obj dX4_init_1 (lwm 66 (by decide +kernel) (by decide +kernel)) (lwm 29 (by decide +kernel) (by decide +kernel)) (lwm 30 (by decide +kernel) (by decide +kernel)) ⟨by decide, by decide⟩ ?_
  refine k_aload dX4_init_4 ?_
  refine k_iconst (v := 4) dX4_init_5 (by decide) ?_
  refine k_newa (at9 := .int) (ty := .int) (kd := 0) (N := 4) (a0 := (4, .inl (fun _ => 0))) rfl (lwm 41 (by decide +kernel) (by decide +kernel)) (fun _ => rfl) (fun s c1 c2 a b => Option.some.inj (a.symm.trans b)) (fun _ => rfl) (by decide) (by decide) (by decide) (by decide) (by decide) dX4_init_6 (fun q1 => ?_)
  refine k_put (ci := 4) (C := RX4) (T := TX4) (N := 2) (j := 0) rfl (by decide) (lwm 67 (by decide +kernel) (by decide +kernel)) rfl rfl rfl rfl rfl (Nat.le_of_ble_eq_true rfl) 0 rfl dX4_init_8 (ws1 := [(h0, .inr (4, [.ref q1, .int 0])), (q1, .inl (g.2.1 0, (4, .inl (fun _ => 0))))]) rfl ?_
  refine k_aload dX4_init_11 ?_
  refine k_iconst (v := 0) dX4_init_12 (by decide) ?_
  refine k_putv (ci := 4) (C := RX4) (T := TX4) (N := 2) (j := 1) rfl (by decide) (lwm 68 (by decide +kernel) (by decide +kernel)) rfl rfl rfl rfl (Nat.le_of_ble_eq_true rfl) 0 rfl dX4_init_13 (ws1 := [(h0, .inr (4, [.ref q1, .int 0])), (q1, .inl (g.2.1 0, (4, .inl (fun _ => 0))))]) rfl ?_
  exact k_ret (fun i => [q1].getD i 0) rfl dX4_init_16

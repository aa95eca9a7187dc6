set_option maxRecDepth 100000 in
set_option maxHeartbeats 4000000 in
theorem c_X0_init (l : Launch) (G : gT) (v : Nat) : MV l yX0_init cX0_init 1 { frames := 1, cells := 5, slots := 150, locals := 20 } [.ref v] G ([(v, .inr (0, [.null, .null, .null, .null, .null, .int 0]))]) (fun (_ : Nat → Nat) => True) (fun u => [(v, .inr (0, [.ref (u 0), .ref (u 1), .ref (u 2), .ref (u 3), .ref (u 4), .int 0])), (u 0, .inl (gc G 0, 30, .inl (fun _ => 0))), (u 1, .inl (gc G 0, 30, .inl (fun _ => 0))), (u 2, .inl (gc G 0, 30, .inl (fun _ => 0))), (u 3, .inl (gc G 0, 30, .inl (fun _ => 0))), (u 4, .inl (gc G 0, 30, .inl (fun _ => 0)))]) := by
  refine jm_v (own := RX0) (by decide) rfl (Nat.le_of_ble_eq_true rfl) (fun x hl hC hR hin => ?_)
  subst hl
  refine J_aload_n hC dX0_init_0 0 rfl rfl ?_
  refine J_oinit hC dX0_init_1 wl_X0_3 (by decide) (by decide) ?_
  refine J_aload_n hC dX0_init_4 0 rfl rfl ?_
  refine J_bipush (v := nI 30) hC dX0_init_5 rfl ?_
  refine J_newI hC dX0_init_7 (by decide) (by decide) (by decide) (fun q0 => ?_)
  refine J_wq (show _ = [(v, .inr (0, [.null, .null, .null, .null, .null, .int 0])), (q0, .inl (gc G 0, 30, .inl (fun _ => 0)))] from rfl) ?_
  refine J_putF (ws' := [(v, .inr (0, [.ref q0, .null, .null, .null, .null, .int 0])), (q0, .inl (gc G 0, 30, .inl (fun _ => 0)))]) hC wu_X0 rfl tyX0_ok nmX0 hin dX0_init_9 0 0 (by decide) wf_X0_9 rfl rfl rfl (Nat.le_of_ble_eq_true rfl) rfl rfl rfl ?_
  refine J_aload_n hC dX0_init_12 0 rfl rfl ?_
  refine J_bipush (v := nI 30) hC dX0_init_13 rfl ?_
  refine J_newI hC dX0_init_15 (by decide) (by decide) (by decide) (fun q1 => ?_)
  refine J_wq (show _ = [(v, .inr (0, [.ref q0, .null, .null, .null, .null, .int 0])), (q0, .inl (gc G 0, 30, .inl (fun _ => 0))), (q1, .inl (gc G 0, 30, .inl (fun _ => 0)))] from rfl) ?_
  refine J_putF (ws' := [(v, .inr (0, [.ref q0, .ref q1, .null, .null, .null, .int 0])), (q0, .inl (gc G 0, 30, .inl (fun _ => 0))), (q1, .inl (gc G 0, 30, .inl (fun _ => 0)))]) hC wu_X0 rfl tyX0_ok nmX0 hin dX0_init_17 0 1 (by decide) wf_X0_15 rfl rfl rfl (Nat.le_of_ble_eq_true rfl) rfl rfl rfl ?_
  refine J_aload_n hC dX0_init_20 0 rfl rfl ?_
  refine J_bipush (v := nI 30) hC dX0_init_21 rfl ?_
  refine J_newI hC dX0_init_23 (by decide) (by decide) (by decide) (fun q2 => ?_)
  refine J_wq (show _ = [(v, .inr (0, [.ref q0, .ref q1, .null, .null, .null, .int 0])), (q0, .inl (gc G 0, 30, .inl (fun _ => 0))), (q1, .inl (gc G 0, 30, .inl (fun _ => 0))), (q2, .inl (gc G 0, 30, .inl (fun _ => 0)))] from rfl) ?_
  refine J_putF (ws' := [(v, .inr (0, [.ref q0, .ref q1, .ref q2, .null, .null, .int 0])), (q0, .inl (gc G 0, 30, .inl (fun _ => 0))), (q1, .inl (gc G 0, 30, .inl (fun _ => 0))), (q2, .inl (gc G 0, 30, .inl (fun _ => 0)))]) hC wu_X0 rfl tyX0_ok nmX0 hin dX0_init_25 0 2 (by decide) wf_X0_18 rfl rfl rfl (Nat.le_of_ble_eq_true rfl) rfl rfl rfl ?_
  refine J_aload_n hC dX0_init_28 0 rfl rfl ?_
  refine J_bipush (v := nI 30) hC dX0_init_29 rfl ?_
  refine J_newI hC dX0_init_31 (by decide) (by decide) (by decide) (fun q3 => ?_)
  refine J_wq (show _ = [(v, .inr (0, [.ref q0, .ref q1, .ref q2, .null, .null, .int 0])), (q0, .inl (gc G 0, 30, .inl (fun _ => 0))), (q1, .inl (gc G 0, 30, .inl (fun _ => 0))), (q2, .inl (gc G 0, 30, .inl (fun _ => 0))), (q3, .inl (gc G 0, 30, .inl (fun _ => 0)))] from rfl) ?_
  refine J_putF (ws' := [(v, .inr (0, [.ref q0, .ref q1, .ref q2, .ref q3, .null, .int 0])), (q0, .inl (gc G 0, 30, .inl (fun _ => 0))), (q1, .inl (gc G 0, 30, .inl (fun _ => 0))), (q2, .inl (gc G 0, 30, .inl (fun _ => 0))), (q3, .inl (gc G 0, 30, .inl (fun _ => 0)))]) hC wu_X0 rfl tyX0_ok nmX0 hin dX0_init_33 0 3 (by decide) wf_X0_21 rfl rfl rfl (Nat.le_of_ble_eq_true rfl) rfl rfl rfl ?_
  refine J_aload_n hC dX0_init_36 0 rfl rfl ?_
  refine J_bipush (v := nI 30) hC dX0_init_37 rfl ?_
  refine J_newI hC dX0_init_39 (by decide) (by decide) (by decide) (fun q4 => ?_)
  refine J_wq (show _ = [(v, .inr (0, [.ref q0, .ref q1, .ref q2, .ref q3, .null, .int 0])), (q0, .inl (gc G 0, 30, .inl (fun _ => 0))), (q1, .inl (gc G 0, 30, .inl (fun _ => 0))), (q2, .inl (gc G 0, 30, .inl (fun _ => 0))), (q3, .inl (gc G 0, 30, .inl (fun _ => 0))), (q4, .inl (gc G 0, 30, .inl (fun _ => 0)))] from rfl) ?_
  refine J_putF (ws' := [(v, .inr (0, [.ref q0, .ref q1, .ref q2, .ref q3, .ref q4, .int 0])), (q0, .inl (gc G 0, 30, .inl (fun _ => 0))), (q1, .inl (gc G 0, 30, .inl (fun _ => 0))), (q2, .inl (gc G 0, 30, .inl (fun _ => 0))), (q3, .inl (gc G 0, 30, .inl (fun _ => 0))), (q4, .inl (gc G 0, 30, .inl (fun _ => 0)))]) hC wu_X0 rfl tyX0_ok nmX0 hin dX0_init_41 0 4 (by decide) wf_X0_24 rfl rfl rfl (Nat.le_of_ble_eq_true rfl) rfl rfl rfl ?_
  refine J_aload_n hC dX0_init_44 0 rfl rfl ?_
  refine J_iconst (v := 0) hC dX0_init_45 rfl ?_
  refine J_put (ws' := [(v, .inr (0, [.ref q0, .ref q1, .ref q2, .ref q3, .ref q4, .int 0])), (q0, .inl (gc G 0, 30, .inl (fun _ => 0))), (q1, .inl (gc G 0, 30, .inl (fun _ => 0))), (q2, .inl (gc G 0, 30, .inl (fun _ => 0))), (q3, .inl (gc G 0, 30, .inl (fun _ => 0))), (q4, .inl (gc G 0, 30, .inl (fun _ => 0)))]) hC wu_X0 rfl tyX0_ok nmX0 dX0_init_46 0 5 (by decide) wf_X0_27 rfl rfl (Nat.le_of_ble_eq_true rfl) rfl rfl rfl ?_
  exact J_vret hC hR dX0_init_49 (fun i => if i = 0 then q0 else if i = 1 then q1 else if i = 2 then q2 else if i = 3 then q3 else q4) trivial rfl (by decide) (by decide)

set_option maxRecDepth 100000 in
set_option maxHeartbeats 4000000 in
theorem c_X1_init (l : Launch) (G : gT) (v : Nat) : MV l yX1_init cX1_init 1 { frames := 1, cells := 1, slots := 600, locals := 20 } [.ref v] G ([(v, .inr (1, [.null, .int 0]))]) (fun (_ : Nat → Nat) => True) (fun u => [(v, .inr (1, [.ref (u 0), .int 0])), (u 0, .inl (gc G 1, 600, .inl (fun _ => 0)))]) := by
  refine jm_v (own := RX1) (by decide) rfl (Nat.le_of_ble_eq_true rfl) (fun x hl hC hR hin => ?_)
  subst hl
  refine J_aload_n hC dX1_init_0 0 rfl rfl ?_
  refine J_oinit hC dX1_init_1 wl_X1_3 (by decide) (by decide) ?_
  refine J_aload_n hC dX1_init_4 0 rfl rfl ?_
  refine J_sipush (v := nI 600) hC dX1_init_5 rfl ?_
  refine J_newB hC dX1_init_8 (by decide) (by decide) (by decide) (fun q0 => ?_)
  refine J_wq (show _ = [(v, .inr (1, [.null, .int 0])), (q0, .inl (gc G 1, 600, .inl (fun _ => 0)))] from rfl) ?_
  refine J_putF (ws' := [(v, .inr (1, [.ref q0, .int 0])), (q0, .inl (gc G 1, 600, .inl (fun _ => 0)))]) hC wu_X1 rfl tyX1_ok nmX1 hin dX1_init_10 0 0 (by decide) wf_X1_11 rfl rfl rfl (Nat.le_of_ble_eq_true rfl) rfl rfl rfl ?_
  refine J_aload_n hC dX1_init_13 0 rfl rfl ?_
  refine J_iconst (v := 0) hC dX1_init_14 rfl ?_
  refine J_put (ws' := [(v, .inr (1, [.ref q0, .int 0])), (q0, .inl (gc G 1, 600, .inl (fun _ => 0)))]) hC wu_X1 rfl tyX1_ok nmX1 dX1_init_15 0 1 (by decide) wf_X1_15 rfl rfl (Nat.le_of_ble_eq_true rfl) rfl rfl rfl ?_
  exact J_vret hC hR dX1_init_18 (fun _ => q0) trivial rfl (by decide) (by decide)

set_option maxRecDepth 100000 in
set_option maxHeartbeats 4000000 in
theorem c_X2_init (l : Launch) (G : gT) (v : Nat) : MV l yX2_init cX2_init 1 { frames := 1, cells := 5, slots := 30, locals := 20 } [.ref v] G ([(v, .inr (2, [.null, .null, .null, .null, .null, .int 0]))]) (fun (_ : Nat → Nat) => True) (fun u => [(v, .inr (2, [.ref (u 0), .ref (u 1), .ref (u 2), .ref (u 3), .ref (u 4), .int 0])), (u 0, .inl (gc G 0, 6, .inl (fun _ => 0))), (u 1, .inl (gc G 0, 6, .inl (fun _ => 0))), (u 2, .inl (gc G 0, 6, .inl (fun _ => 0))), (u 3, .inl (gc G 0, 6, .inl (fun _ => 0))), (u 4, .inl (gc G 0, 6, .inl (fun _ => 0)))]) := by
  refine jm_v (own := RX2) (by decide) rfl (Nat.le_of_ble_eq_true rfl) (fun x hl hC hR hin => ?_)
  subst hl
  refine J_aload_n hC dX2_init_0 0 rfl rfl ?_
  refine J_oinit hC dX2_init_1 wl_X2_3 (by decide) (by decide) ?_
  refine J_aload_n hC dX2_init_4 0 rfl rfl ?_
  refine J_bipush (v := nI 6) hC dX2_init_5 rfl ?_
  refine J_newI hC dX2_init_7 (by decide) (by decide) (by decide) (fun q0 => ?_)
  refine J_wq (show _ = [(v, .inr (2, [.null, .null, .null, .null, .null, .int 0])), (q0, .inl (gc G 0, 6, .inl (fun _ => 0)))] from rfl) ?_
  refine J_putF (ws' := [(v, .inr (2, [.ref q0, .null, .null, .null, .null, .int 0])), (q0, .inl (gc G 0, 6, .inl (fun _ => 0)))]) hC wu_X2 rfl tyX2_ok nmX2 hin dX2_init_9 0 0 (by decide) wf_X2_9 rfl rfl rfl (Nat.le_of_ble_eq_true rfl) rfl rfl rfl ?_
  refine J_aload_n hC dX2_init_12 0 rfl rfl ?_
  refine J_bipush (v := nI 6) hC dX2_init_13 rfl ?_
  refine J_newI hC dX2_init_15 (by decide) (by decide) (by decide) (fun q1 => ?_)
  refine J_wq (show _ = [(v, .inr (2, [.ref q0, .null, .null, .null, .null, .int 0])), (q0, .inl (gc G 0, 6, .inl (fun _ => 0))), (q1, .inl (gc G 0, 6, .inl (fun _ => 0)))] from rfl) ?_
  refine J_putF (ws' := [(v, .inr (2, [.ref q0, .ref q1, .null, .null, .null, .int 0])), (q0, .inl (gc G 0, 6, .inl (fun _ => 0))), (q1, .inl (gc G 0, 6, .inl (fun _ => 0)))]) hC wu_X2 rfl tyX2_ok nmX2 hin dX2_init_17 0 1 (by decide) wf_X2_15 rfl rfl rfl (Nat.le_of_ble_eq_true rfl) rfl rfl rfl ?_
  refine J_aload_n hC dX2_init_20 0 rfl rfl ?_
  refine J_bipush (v := nI 6) hC dX2_init_21 rfl ?_
  refine J_newI hC dX2_init_23 (by decide) (by decide) (by decide) (fun q2 => ?_)
  refine J_wq (show _ = [(v, .inr (2, [.ref q0, .ref q1, .null, .null, .null, .int 0])), (q0, .inl (gc G 0, 6, .inl (fun _ => 0))), (q1, .inl (gc G 0, 6, .inl (fun _ => 0))), (q2, .inl (gc G 0, 6, .inl (fun _ => 0)))] from rfl) ?_
  refine J_putF (ws' := [(v, .inr (2, [.ref q0, .ref q1, .ref q2, .null, .null, .int 0])), (q0, .inl (gc G 0, 6, .inl (fun _ => 0))), (q1, .inl (gc G 0, 6, .inl (fun _ => 0))), (q2, .inl (gc G 0, 6, .inl (fun _ => 0)))]) hC wu_X2 rfl tyX2_ok nmX2 hin dX2_init_25 0 2 (by decide) wf_X2_18 rfl rfl rfl (Nat.le_of_ble_eq_true rfl) rfl rfl rfl ?_
  refine J_aload_n hC dX2_init_28 0 rfl rfl ?_
  refine J_bipush (v := nI 6) hC dX2_init_29 rfl ?_
  refine J_newI hC dX2_init_31 (by decide) (by decide) (by decide) (fun q3 => ?_)
  refine J_wq (show _ = [(v, .inr (2, [.ref q0, .ref q1, .ref q2, .null, .null, .int 0])), (q0, .inl (gc G 0, 6, .inl (fun _ => 0))), (q1, .inl (gc G 0, 6, .inl (fun _ => 0))), (q2, .inl (gc G 0, 6, .inl (fun _ => 0))), (q3, .inl (gc G 0, 6, .inl (fun _ => 0)))] from rfl) ?_
  refine J_putF (ws' := [(v, .inr (2, [.ref q0, .ref q1, .ref q2, .ref q3, .null, .int 0])), (q0, .inl (gc G 0, 6, .inl (fun _ => 0))), (q1, .inl (gc G 0, 6, .inl (fun _ => 0))), (q2, .inl (gc G 0, 6, .inl (fun _ => 0))), (q3, .inl (gc G 0, 6, .inl (fun _ => 0)))]) hC wu_X2 rfl tyX2_ok nmX2 hin dX2_init_33 0 3 (by decide) wf_X2_21 rfl rfl rfl (Nat.le_of_ble_eq_true rfl) rfl rfl rfl ?_
  refine J_aload_n hC dX2_init_36 0 rfl rfl ?_
  refine J_bipush (v := nI 6) hC dX2_init_37 rfl ?_
  refine J_newI hC dX2_init_39 (by decide) (by decide) (by decide) (fun q4 => ?_)
  refine J_wq (show _ = [(v, .inr (2, [.ref q0, .ref q1, .ref q2, .ref q3, .null, .int 0])), (q0, .inl (gc G 0, 6, .inl (fun _ => 0))), (q1, .inl (gc G 0, 6, .inl (fun _ => 0))), (q2, .inl (gc G 0, 6, .inl (fun _ => 0))), (q3, .inl (gc G 0, 6, .inl (fun _ => 0))), (q4, .inl (gc G 0, 6, .inl (fun _ => 0)))] from rfl) ?_
  refine J_putF (ws' := [(v, .inr (2, [.ref q0, .ref q1, .ref q2, .ref q3, .ref q4, .int 0])), (q0, .inl (gc G 0, 6, .inl (fun _ => 0))), (q1, .inl (gc G 0, 6, .inl (fun _ => 0))), (q2, .inl (gc G 0, 6, .inl (fun _ => 0))), (q3, .inl (gc G 0, 6, .inl (fun _ => 0))), (q4, .inl (gc G 0, 6, .inl (fun _ => 0)))]) hC wu_X2 rfl tyX2_ok nmX2 hin dX2_init_41 0 4 (by decide) wf_X2_24 rfl rfl rfl (Nat.le_of_ble_eq_true rfl) rfl rfl rfl ?_
  refine J_aload_n hC dX2_init_44 0 rfl rfl ?_
  refine J_iconst (v := 0) hC dX2_init_45 rfl ?_
  refine J_put (ws' := [(v, .inr (2, [.ref q0, .ref q1, .ref q2, .ref q3, .ref q4, .int 0])), (q0, .inl (gc G 0, 6, .inl (fun _ => 0))), (q1, .inl (gc G 0, 6, .inl (fun _ => 0))), (q2, .inl (gc G 0, 6, .inl (fun _ => 0))), (q3, .inl (gc G 0, 6, .inl (fun _ => 0))), (q4, .inl (gc G 0, 6, .inl (fun _ => 0)))]) hC wu_X2 rfl tyX2_ok nmX2 dX2_init_46 0 5 (by decide) wf_X2_27 rfl rfl (Nat.le_of_ble_eq_true rfl) rfl rfl rfl ?_
  exact J_vret hC hR dX2_init_49 (fun i => if i = 0 then q0 else if i = 1 then q1 else if i = 2 then q2 else if i = 3 then q3 else q4) trivial rfl (by decide) (by decide)

set_option maxRecDepth 100000 in
set_option maxHeartbeats 4000000 in
theorem c_X9_init (l : Launch) (G : gT) (v : Nat) : MV l yX9_init cX9_init 1 { frames := 1, cells := 3, slots := 18, locals := 20 } [.ref v] G ([(v, .inr (9, [.null, .null, .null, .int 0]))]) (fun (_ : Nat → Nat) => True) (fun u => [(v, .inr (9, [.ref (u 0), .ref (u 1), .ref (u 2), .int 0])), (u 0, .inl (gc G 0, 6, .inl (fun _ => 0))), (u 1, .inl (gc G 0, 6, .inl (fun _ => 0))), (u 2, .inl (gc G 0, 6, .inl (fun _ => 0)))]) := by
  refine jm_v (own := RX9) (by decide) rfl (Nat.le_of_ble_eq_true rfl) (fun x hl hC hR hin => ?_)
  subst hl
  refine J_aload_n hC dX9_init_0 0 rfl rfl ?_
  refine J_oinit hC dX9_init_1 wl_X9_3 (by decide) (by decide) ?_
  refine J_aload_n hC dX9_init_4 0 rfl rfl ?_
  refine J_bipush (v := nI 6) hC dX9_init_5 rfl ?_
  refine J_newI hC dX9_init_7 (by decide) (by decide) (by decide) (fun q0 => ?_)
  refine J_wq (show _ = [(v, .inr (9, [.null, .null, .null, .int 0])), (q0, .inl (gc G 0, 6, .inl (fun _ => 0)))] from rfl) ?_
  refine J_putF (ws' := [(v, .inr (9, [.ref q0, .null, .null, .int 0])), (q0, .inl (gc G 0, 6, .inl (fun _ => 0)))]) hC wu_X9 rfl tyX9_ok nmX9 hin dX9_init_9 0 0 (by decide) wf_X9_9 rfl rfl rfl (Nat.le_of_ble_eq_true rfl) rfl rfl rfl ?_
  refine J_aload_n hC dX9_init_12 0 rfl rfl ?_
  refine J_bipush (v := nI 6) hC dX9_init_13 rfl ?_
  refine J_newI hC dX9_init_15 (by decide) (by decide) (by decide) (fun q1 => ?_)
  refine J_wq (show _ = [(v, .inr (9, [.ref q0, .null, .null, .int 0])), (q0, .inl (gc G 0, 6, .inl (fun _ => 0))), (q1, .inl (gc G 0, 6, .inl (fun _ => 0)))] from rfl) ?_
  refine J_putF (ws' := [(v, .inr (9, [.ref q0, .ref q1, .null, .int 0])), (q0, .inl (gc G 0, 6, .inl (fun _ => 0))), (q1, .inl (gc G 0, 6, .inl (fun _ => 0)))]) hC wu_X9 rfl tyX9_ok nmX9 hin dX9_init_17 0 1 (by decide) wf_X9_15 rfl rfl rfl (Nat.le_of_ble_eq_true rfl) rfl rfl rfl ?_
  refine J_aload_n hC dX9_init_20 0 rfl rfl ?_
  refine J_bipush (v := nI 6) hC dX9_init_21 rfl ?_
  refine J_newI hC dX9_init_23 (by decide) (by decide) (by decide) (fun q2 => ?_)
  refine J_wq (show _ = [(v, .inr (9, [.ref q0, .ref q1, .null, .int 0])), (q0, .inl (gc G 0, 6, .inl (fun _ => 0))), (q1, .inl (gc G 0, 6, .inl (fun _ => 0))), (q2, .inl (gc G 0, 6, .inl (fun _ => 0)))] from rfl) ?_
  refine J_putF (ws' := [(v, .inr (9, [.ref q0, .ref q1, .ref q2, .int 0])), (q0, .inl (gc G 0, 6, .inl (fun _ => 0))), (q1, .inl (gc G 0, 6, .inl (fun _ => 0))), (q2, .inl (gc G 0, 6, .inl (fun _ => 0)))]) hC wu_X9 rfl tyX9_ok nmX9 hin dX9_init_25 0 2 (by decide) wf_X9_18 rfl rfl rfl (Nat.le_of_ble_eq_true rfl) rfl rfl rfl ?_
  refine J_aload_n hC dX9_init_28 0 rfl rfl ?_
  refine J_iconst (v := 0) hC dX9_init_29 rfl ?_
  refine J_put (ws' := [(v, .inr (9, [.ref q0, .ref q1, .ref q2, .int 0])), (q0, .inl (gc G 0, 6, .inl (fun _ => 0))), (q1, .inl (gc G 0, 6, .inl (fun _ => 0))), (q2, .inl (gc G 0, 6, .inl (fun _ => 0)))]) hC wu_X9 rfl tyX9_ok nmX9 dX9_init_30 0 3 (by decide) wf_X9_21 rfl rfl (Nat.le_of_ble_eq_true rfl) rfl rfl rfl ?_
  exact J_vret hC hR dX9_init_33 (fun i => if i = 0 then q0 else if i = 1 then q1 else q2) trivial rfl (by decide) (by decide)

set_option maxRecDepth 100000 in
set_option maxHeartbeats 4000000 in
theorem c_X7_init (l : Launch) (G : gT) (v : Nat) : MV l yX7_init cX7_init 1 { frames := 1, cells := 2, slots := 6, locals := 20 } [.ref v] G ([(v, .inr (7, [.null, .null, .int 0]))]) (fun (_ : Nat → Nat) => True) (fun u => [(v, .inr (7, [.ref (u 0), .ref (u 1), .int 0])), (u 0, .inl (gc G 0, 3, .inl (fun _ => 0))), (u 1, .inl (gc G 0, 3, .inl (fun _ => 0)))]) := by
  refine jm_v (own := RX7) (by decide) rfl (Nat.le_of_ble_eq_true rfl) (fun x hl hC hR hin => ?_)
  subst hl
  refine J_aload_n hC dX7_init_0 0 rfl rfl ?_
  refine J_oinit hC dX7_init_1 wl_X7_3 (by decide) (by decide) ?_
  refine J_aload_n hC dX7_init_4 0 rfl rfl ?_
  refine J_iconst (v := nI 3) hC dX7_init_5 rfl ?_
  refine J_newI hC dX7_init_6 (by decide) (by decide) (by decide) (fun q0 => ?_)
  refine J_wq (show _ = [(v, .inr (7, [.null, .null, .int 0])), (q0, .inl (gc G 0, 3, .inl (fun _ => 0)))] from rfl) ?_
  refine J_putF (ws' := [(v, .inr (7, [.ref q0, .null, .int 0])), (q0, .inl (gc G 0, 3, .inl (fun _ => 0)))]) hC wu_X7 rfl tyX7_ok nmX7 hin dX7_init_8 0 0 (by decide) wf_X7_9 rfl rfl rfl (Nat.le_of_ble_eq_true rfl) rfl rfl rfl ?_
  refine J_aload_n hC dX7_init_11 0 rfl rfl ?_
  refine J_iconst (v := nI 3) hC dX7_init_12 rfl ?_
  refine J_newI hC dX7_init_13 (by decide) (by decide) (by decide) (fun q1 => ?_)
  refine J_wq (show _ = [(v, .inr (7, [.ref q0, .null, .int 0])), (q0, .inl (gc G 0, 3, .inl (fun _ => 0))), (q1, .inl (gc G 0, 3, .inl (fun _ => 0)))] from rfl) ?_
  refine J_putF (ws' := [(v, .inr (7, [.ref q0, .ref q1, .int 0])), (q0, .inl (gc G 0, 3, .inl (fun _ => 0))), (q1, .inl (gc G 0, 3, .inl (fun _ => 0)))]) hC wu_X7 rfl tyX7_ok nmX7 hin dX7_init_15 0 1 (by decide) wf_X7_15 rfl rfl rfl (Nat.le_of_ble_eq_true rfl) rfl rfl rfl ?_
  refine J_aload_n hC dX7_init_18 0 rfl rfl ?_
  refine J_iconst (v := 0) hC dX7_init_19 rfl ?_
  refine J_put (ws' := [(v, .inr (7, [.ref q0, .ref q1, .int 0])), (q0, .inl (gc G 0, 3, .inl (fun _ => 0))), (q1, .inl (gc G 0, 3, .inl (fun _ => 0)))]) hC wu_X7 rfl tyX7_ok nmX7 dX7_init_20 0 2 (by decide) wf_X7_18 rfl rfl (Nat.le_of_ble_eq_true rfl) rfl rfl rfl ?_
  exact J_vret hC hR dX7_init_23 (fun i => if i = 0 then q0 else q1) trivial rfl (by decide) (by decide)

set_option maxRecDepth 100000 in
set_option maxHeartbeats 4000000 in
theorem c_X4_init (l : Launch) (G : gT) (v : Nat) : MV l yX4_init cX4_init 1 { frames := 1, cells := 1, slots := 10, locals := 20 } [.ref v] G ([(v, .inr (4, [.null, .int 0]))]) (fun (_ : Nat → Nat) => True) (fun u => [(v, .inr (4, [.ref (u 0), .int 0])), (u 0, .inl (gc G 0, 10, .inl (fun _ => 0)))]) := by
  refine jm_v (own := RX4) (by decide) rfl (Nat.le_of_ble_eq_true rfl) (fun x hl hC hR hin => ?_)
  subst hl
  refine J_aload_n hC dX4_init_0 0 rfl rfl ?_
  refine J_oinit hC dX4_init_1 wl_X4_1 (by decide) (by decide) ?_
  refine J_aload_n hC dX4_init_4 0 rfl rfl ?_
  refine J_bipush (v := nI 10) hC dX4_init_5 rfl ?_
  refine J_newI hC dX4_init_7 (by decide) (by decide) (by decide) (fun q0 => ?_)
  refine J_wq (show _ = [(v, .inr (4, [.null, .int 0])), (q0, .inl (gc G 0, 10, .inl (fun _ => 0)))] from rfl) ?_
  refine J_putF (ws' := [(v, .inr (4, [.ref q0, .int 0])), (q0, .inl (gc G 0, 10, .inl (fun _ => 0)))]) hC wu_X4 rfl tyX4_ok nmX4 hin dX4_init_9 0 0 (by decide) wf_X4_9 rfl rfl rfl (Nat.le_of_ble_eq_true rfl) rfl rfl rfl ?_
  refine J_aload_n hC dX4_init_12 0 rfl rfl ?_
  refine J_iconst (v := 0) hC dX4_init_13 rfl ?_
  refine J_put (ws' := [(v, .inr (4, [.ref q0, .int 0])), (q0, .inl (gc G 0, 10, .inl (fun _ => 0)))]) hC wu_X4 rfl tyX4_ok nmX4 dX4_init_14 0 1 (by decide) wf_X4_13 rfl rfl (Nat.le_of_ble_eq_true rfl) rfl rfl rfl ?_
  exact J_vret hC hR dX4_init_17 (fun _ => q0) trivial rfl (by decide) (by decide)

set_option maxRecDepth 100000 in
set_option maxHeartbeats 4000000 in
theorem c_X8_init (l : Launch) (G : gT) (v : Nat) : MV l yX8_init cX8_init 1 { frames := 2, cells := 21, slots := 235, locals := 40 } [.ref v] G ([(v, .inr (8, [.null, .null, .null, .null, .null, .int 0, .int 0, .int 0, .int 0, .int 0, .int 0, .int 0, .int 0, .int 0]))]) (fun (u : Nat → Nat) => u 0 = v) (fun u => stW G u Z0) := by
  refine jm_v (own := RX8) (by decide) rfl (Nat.le_of_ble_eq_true rfl) (fun x hl hC hR hin => ?_)
  subst hl
  refine J_aload_n hC dX8_init_0 0 rfl rfl ?_
  refine J_oinit hC dX8_init_1 wl_X8_3 (by decide) (by decide) ?_
  refine J_aload_n hC dX8_init_4 0 rfl rfl ?_
  refine J_new (ci := 9) hC [.null, .null, .null, .int 0] wu_X9 rfl tyX9_ok dX8_init_5 wk_X8_9 wt_X9 wi_X9 (fun j hj => by rcases (show j = 0 ∨ j = 1 ∨ j = 2 ∨ j = 3 by omega) with rfl | rfl | rfl | rfl <;> rfl) (by decide) (by decide) (fun q0 => ?_)
  refine J_wq (show _ = [(v, .inr (8, [.null, .null, .null, .null, .null, .int 0, .int 0, .int 0, .int 0, .int 0, .int 0, .int 0, .int 0, .int 0])), (q0, .inr (9, [.null, .null, .null, .int 0]))] from rfl) ?_
  refine J_dup hC dX8_init_8 rfl ?_
  refine J_callCN hC dX8_init_9 wln_X8_11 yc_X9 (appr_v ([(v, .inr (8, [.null, .null, .null, .null, .null, .int 0, .int 0, .int 0, .int 0, .int 0, .int 0, .int 0, .int 0, .int 0]))]) (c_X9_init _ G q0)) rfl rfl ⟨Nat.le_of_ble_eq_true rfl, Nat.le_of_ble_eq_true rfl⟩ (Nat.le_of_ble_eq_true rfl) (Nat.le_of_ble_eq_true rfl) (Nat.le_of_ble_eq_true rfl) (fun u0 _ => ?_)
  refine J_wq (show _ = [(v, .inr (8, [.null, .null, .null, .null, .null, .int 0, .int 0, .int 0, .int 0, .int 0, .int 0, .int 0, .int 0, .int 0])), (q0, .inr (9, [.ref (u0 0), .ref (u0 1), .ref (u0 2), .int 0])), (u0 0, .inl (gc G 0, 6, .inl (fun _ => 0))), (u0 1, .inl (gc G 0, 6, .inl (fun _ => 0))), (u0 2, .inl (gc G 0, 6, .inl (fun _ => 0)))] from rfl) ?_
  refine J_putF (ws' := [(v, .inr (8, [.ref q0, .null, .null, .null, .null, .int 0, .int 0, .int 0, .int 0, .int 0, .int 0, .int 0, .int 0, .int 0])), (q0, .inr (9, [.ref (u0 0), .ref (u0 1), .ref (u0 2), .int 0])), (u0 0, .inl (gc G 0, 6, .inl (fun _ => 0))), (u0 1, .inl (gc G 0, 6, .inl (fun _ => 0))), (u0 2, .inl (gc G 0, 6, .inl (fun _ => 0)))]) hC wu_X8 rfl tyX8_ok nmX8 hin dX8_init_12 0 0 (by decide) wf_X8_12 rfl rfl rfl (Nat.le_of_ble_eq_true rfl) rfl rfl rfl ?_
  refine J_aload_n hC dX8_init_15 0 rfl rfl ?_
  refine J_new (ci := 2) hC [.null, .null, .null, .null, .null, .int 0] wu_X2 rfl tyX2_ok dX8_init_16 wk_X8_18 wt_X2 wi_X2 (fun j hj => by rcases (show j = 0 ∨ j = 1 ∨ j = 2 ∨ j = 3 ∨ j = 4 ∨ j = 5 by omega) with rfl | rfl | rfl | rfl | rfl | rfl <;> rfl) (by decide) (by decide) (fun q1 => ?_)
  refine J_wq (show _ = [(v, .inr (8, [.ref q0, .null, .null, .null, .null, .int 0, .int 0, .int 0, .int 0, .int 0, .int 0, .int 0, .int 0, .int 0])), (q0, .inr (9, [.ref (u0 0), .ref (u0 1), .ref (u0 2), .int 0])), (u0 0, .inl (gc G 0, 6, .inl (fun _ => 0))), (u0 1, .inl (gc G 0, 6, .inl (fun _ => 0))), (u0 2, .inl (gc G 0, 6, .inl (fun _ => 0))), (q1, .inr (2, [.null, .null, .null, .null, .null, .int 0]))] from rfl) ?_
  refine J_dup hC dX8_init_19 rfl ?_
  refine J_callCN hC dX8_init_20 wln_X8_20 yc_X2 (appr_v ([(v, .inr (8, [.ref q0, .null, .null, .null, .null, .int 0, .int 0, .int 0, .int 0, .int 0, .int 0, .int 0, .int 0, .int 0])), (q0, .inr (9, [.ref (u0 0), .ref (u0 1), .ref (u0 2), .int 0])), (u0 0, .inl (gc G 0, 6, .inl (fun _ => 0))), (u0 1, .inl (gc G 0, 6, .inl (fun _ => 0))), (u0 2, .inl (gc G 0, 6, .inl (fun _ => 0)))]) (c_X2_init _ G q1)) rfl rfl ⟨Nat.le_of_ble_eq_true rfl, Nat.le_of_ble_eq_true rfl⟩ (Nat.le_of_ble_eq_true rfl) (Nat.le_of_ble_eq_true rfl) (Nat.le_of_ble_eq_true rfl) (fun u1 _ => ?_)
  refine J_wq (show _ = [(v, .inr (8, [.ref q0, .null, .null, .null, .null, .int 0, .int 0, .int 0, .int 0, .int 0, .int 0, .int 0, .int 0, .int 0])), (q0, .inr (9, [.ref (u0 0), .ref (u0 1), .ref (u0 2), .int 0])), (u0 0, .inl (gc G 0, 6, .inl (fun _ => 0))), (u0 1, .inl (gc G 0, 6, .inl (fun _ => 0))), (u0 2, .inl (gc G 0, 6, .inl (fun _ => 0))), (q1, .inr (2, [.ref (u1 0), .ref (u1 1), .ref (u1 2), .ref (u1 3), .ref (u1 4), .int 0])), (u1 0, .inl (gc G 0, 6, .inl (fun _ => 0))), (u1 1, .inl (gc G 0, 6, .inl (fun _ => 0))), (u1 2, .inl (gc G 0, 6, .inl (fun _ => 0))), (u1 3, .inl (gc G 0, 6, .inl (fun _ => 0))), (u1 4, .inl (gc G 0, 6, .inl (fun _ => 0)))] from rfl) ?_
  refine J_putF (ws' := [(v, .inr (8, [.ref q0, .ref q1, .null, .null, .null, .int 0, .int 0, .int 0, .int 0, .int 0, .int 0, .int 0, .int 0, .int 0])), (q0, .inr (9, [.ref (u0 0), .ref (u0 1), .ref (u0 2), .int 0])), (u0 0, .inl (gc G 0, 6, .inl (fun _ => 0))), (u0 1, .inl (gc G 0, 6, .inl (fun _ => 0))), (u0 2, .inl (gc G 0, 6, .inl (fun _ => 0))), (q1, .inr (2, [.ref (u1 0), .ref (u1 1), .ref (u1 2), .ref (u1 3), .ref (u1 4), .int 0])), (u1 0, .inl (gc G 0, 6, .inl (fun _ => 0))), (u1 1, .inl (gc G 0, 6, .inl (fun _ => 0))), (u1 2, .inl (gc G 0, 6, .inl (fun _ => 0))), (u1 3, .inl (gc G 0, 6, .inl (fun _ => 0))), (u1 4, .inl (gc G 0, 6, .inl (fun _ => 0)))]) hC wu_X8 rfl tyX8_ok nmX8 hin dX8_init_23 0 1 (by decide) wf_X8_21 rfl rfl rfl (Nat.le_of_ble_eq_true rfl) rfl rfl rfl ?_
  refine J_aload_n hC dX8_init_26 0 rfl rfl ?_
  refine J_new (ci := 7) hC [.null, .null, .int 0] wu_X7 rfl tyX7_ok dX8_init_27 wk_X8_25 wt_X7 wi_X7 (fun j hj => by rcases (show j = 0 ∨ j = 1 ∨ j = 2 by omega) with rfl | rfl | rfl <;> rfl) (by decide) (by decide) (fun q2 => ?_)
  refine J_wq (show _ = [(v, .inr (8, [.ref q0, .ref q1, .null, .null, .null, .int 0, .int 0, .int 0, .int 0, .int 0, .int 0, .int 0, .int 0, .int 0])), (q0, .inr (9, [.ref (u0 0), .ref (u0 1), .ref (u0 2), .int 0])), (u0 0, .inl (gc G 0, 6, .inl (fun _ => 0))), (u0 1, .inl (gc G 0, 6, .inl (fun _ => 0))), (u0 2, .inl (gc G 0, 6, .inl (fun _ => 0))), (q1, .inr (2, [.ref (u1 0), .ref (u1 1), .ref (u1 2), .ref (u1 3), .ref (u1 4), .int 0])), (u1 0, .inl (gc G 0, 6, .inl (fun _ => 0))), (u1 1, .inl (gc G 0, 6, .inl (fun _ => 0))), (u1 2, .inl (gc G 0, 6, .inl (fun _ => 0))), (u1 3, .inl (gc G 0, 6, .inl (fun _ => 0))), (u1 4, .inl (gc G 0, 6, .inl (fun _ => 0))), (q2, .inr (7, [.null, .null, .int 0]))] from rfl) ?_
  refine J_dup hC dX8_init_30 rfl ?_
  refine J_callCN hC dX8_init_31 wln_X8_27 yc_X7 (appr_v ([(v, .inr (8, [.ref q0, .ref q1, .null, .null, .null, .int 0, .int 0, .int 0, .int 0, .int 0, .int 0, .int 0, .int 0, .int 0])), (q0, .inr (9, [.ref (u0 0), .ref (u0 1), .ref (u0 2), .int 0])), (u0 0, .inl (gc G 0, 6, .inl (fun _ => 0))), (u0 1, .inl (gc G 0, 6, .inl (fun _ => 0))), (u0 2, .inl (gc G 0, 6, .inl (fun _ => 0))), (q1, .inr (2, [.ref (u1 0), .ref (u1 1), .ref (u1 2), .ref (u1 3), .ref (u1 4), .int 0])), (u1 0, .inl (gc G 0, 6, .inl (fun _ => 0))), (u1 1, .inl (gc G 0, 6, .inl (fun _ => 0))), (u1 2, .inl (gc G 0, 6, .inl (fun _ => 0))), (u1 3, .inl (gc G 0, 6, .inl (fun _ => 0))), (u1 4, .inl (gc G 0, 6, .inl (fun _ => 0)))]) (c_X7_init _ G q2)) rfl rfl ⟨Nat.le_of_ble_eq_true rfl, Nat.le_of_ble_eq_true rfl⟩ (Nat.le_of_ble_eq_true rfl) (Nat.le_of_ble_eq_true rfl) (Nat.le_of_ble_eq_true rfl) (fun u2 _ => ?_)
  refine J_wq (show _ = [(v, .inr (8, [.ref q0, .ref q1, .null, .null, .null, .int 0, .int 0, .int 0, .int 0, .int 0, .int 0, .int 0, .int 0, .int 0])), (q0, .inr (9, [.ref (u0 0), .ref (u0 1), .ref (u0 2), .int 0])), (u0 0, .inl (gc G 0, 6, .inl (fun _ => 0))), (u0 1, .inl (gc G 0, 6, .inl (fun _ => 0))), (u0 2, .inl (gc G 0, 6, .inl (fun _ => 0))), (q1, .inr (2, [.ref (u1 0), .ref (u1 1), .ref (u1 2), .ref (u1 3), .ref (u1 4), .int 0])), (u1 0, .inl (gc G 0, 6, .inl (fun _ => 0))), (u1 1, .inl (gc G 0, 6, .inl (fun _ => 0))), (u1 2, .inl (gc G 0, 6, .inl (fun _ => 0))), (u1 3, .inl (gc G 0, 6, .inl (fun _ => 0))), (u1 4, .inl (gc G 0, 6, .inl (fun _ => 0))), (q2, .inr (7, [.ref (u2 0), .ref (u2 1), .int 0])), (u2 0, .inl (gc G 0, 3, .inl (fun _ => 0))), (u2 1, .inl (gc G 0, 3, .inl (fun _ => 0)))] from rfl) ?_
  refine J_putF (ws' := [(v, .inr (8, [.ref q0, .ref q1, .ref q2, .null, .null, .int 0, .int 0, .int 0, .int 0, .int 0, .int 0, .int 0, .int 0, .int 0])), (q0, .inr (9, [.ref (u0 0), .ref (u0 1), .ref (u0 2), .int 0])), (u0 0, .inl (gc G 0, 6, .inl (fun _ => 0))), (u0 1, .inl (gc G 0, 6, .inl (fun _ => 0))), (u0 2, .inl (gc G 0, 6, .inl (fun _ => 0))), (q1, .inr (2, [.ref (u1 0), .ref (u1 1), .ref (u1 2), .ref (u1 3), .ref (u1 4), .int 0])), (u1 0, .inl (gc G 0, 6, .inl (fun _ => 0))), (u1 1, .inl (gc G 0, 6, .inl (fun _ => 0))), (u1 2, .inl (gc G 0, 6, .inl (fun _ => 0))), (u1 3, .inl (gc G 0, 6, .inl (fun _ => 0))), (u1 4, .inl (gc G 0, 6, .inl (fun _ => 0))), (q2, .inr (7, [.ref (u2 0), .ref (u2 1), .int 0])), (u2 0, .inl (gc G 0, 3, .inl (fun _ => 0))), (u2 1, .inl (gc G 0, 3, .inl (fun _ => 0)))]) hC wu_X8 rfl tyX8_ok nmX8 hin dX8_init_34 0 2 (by decide) wf_X8_28 rfl rfl rfl (Nat.le_of_ble_eq_true rfl) rfl rfl rfl ?_
  refine J_aload_n hC dX8_init_37 0 rfl rfl ?_
  refine J_new (ci := 0) hC [.null, .null, .null, .null, .null, .int 0] wu_X0 rfl tyX0_ok dX8_init_38 wk_X8_32 wt_X0 wi_X0 (fun j hj => by rcases (show j = 0 ∨ j = 1 ∨ j = 2 ∨ j = 3 ∨ j = 4 ∨ j = 5 by omega) with rfl | rfl | rfl | rfl | rfl | rfl <;> rfl) (by decide) (by decide) (fun q3 => ?_)
  refine J_wq (show _ = [(v, .inr (8, [.ref q0, .ref q1, .ref q2, .null, .null, .int 0, .int 0, .int 0, .int 0, .int 0, .int 0, .int 0, .int 0, .int 0])), (q0, .inr (9, [.ref (u0 0), .ref (u0 1), .ref (u0 2), .int 0])), (u0 0, .inl (gc G 0, 6, .inl (fun _ => 0))), (u0 1, .inl (gc G 0, 6, .inl (fun _ => 0))), (u0 2, .inl (gc G 0, 6, .inl (fun _ => 0))), (q1, .inr (2, [.ref (u1 0), .ref (u1 1), .ref (u1 2), .ref (u1 3), .ref (u1 4), .int 0])), (u1 0, .inl (gc G 0, 6, .inl (fun _ => 0))), (u1 1, .inl (gc G 0, 6, .inl (fun _ => 0))), (u1 2, .inl (gc G 0, 6, .inl (fun _ => 0))), (u1 3, .inl (gc G 0, 6, .inl (fun _ => 0))), (u1 4, .inl (gc G 0, 6, .inl (fun _ => 0))), (q2, .inr (7, [.ref (u2 0), .ref (u2 1), .int 0])), (u2 0, .inl (gc G 0, 3, .inl (fun _ => 0))), (u2 1, .inl (gc G 0, 3, .inl (fun _ => 0))), (q3, .inr (0, [.null, .null, .null, .null, .null, .int 0]))] from rfl) ?_
  refine J_dup hC dX8_init_41 rfl ?_
  refine J_callCN hC dX8_init_42 wln_X8_34 yc_X0 (appr_v ([(v, .inr (8, [.ref q0, .ref q1, .ref q2, .null, .null, .int 0, .int 0, .int 0, .int 0, .int 0, .int 0, .int 0, .int 0, .int 0])), (q0, .inr (9, [.ref (u0 0), .ref (u0 1), .ref (u0 2), .int 0])), (u0 0, .inl (gc G 0, 6, .inl (fun _ => 0))), (u0 1, .inl (gc G 0, 6, .inl (fun _ => 0))), (u0 2, .inl (gc G 0, 6, .inl (fun _ => 0))), (q1, .inr (2, [.ref (u1 0), .ref (u1 1), .ref (u1 2), .ref (u1 3), .ref (u1 4), .int 0])), (u1 0, .inl (gc G 0, 6, .inl (fun _ => 0))), (u1 1, .inl (gc G 0, 6, .inl (fun _ => 0))), (u1 2, .inl (gc G 0, 6, .inl (fun _ => 0))), (u1 3, .inl (gc G 0, 6, .inl (fun _ => 0))), (u1 4, .inl (gc G 0, 6, .inl (fun _ => 0))), (q2, .inr (7, [.ref (u2 0), .ref (u2 1), .int 0])), (u2 0, .inl (gc G 0, 3, .inl (fun _ => 0))), (u2 1, .inl (gc G 0, 3, .inl (fun _ => 0)))]) (c_X0_init _ G q3)) rfl rfl ⟨Nat.le_of_ble_eq_true rfl, Nat.le_of_ble_eq_true rfl⟩ (Nat.le_of_ble_eq_true rfl) (Nat.le_of_ble_eq_true rfl) (Nat.le_of_ble_eq_true rfl) (fun u3 _ => ?_)
  refine J_wq (show _ = [(v, .inr (8, [.ref q0, .ref q1, .ref q2, .null, .null, .int 0, .int 0, .int 0, .int 0, .int 0, .int 0, .int 0, .int 0, .int 0])), (q0, .inr (9, [.ref (u0 0), .ref (u0 1), .ref (u0 2), .int 0])), (u0 0, .inl (gc G 0, 6, .inl (fun _ => 0))), (u0 1, .inl (gc G 0, 6, .inl (fun _ => 0))), (u0 2, .inl (gc G 0, 6, .inl (fun _ => 0))), (q1, .inr (2, [.ref (u1 0), .ref (u1 1), .ref (u1 2), .ref (u1 3), .ref (u1 4), .int 0])), (u1 0, .inl (gc G 0, 6, .inl (fun _ => 0))), (u1 1, .inl (gc G 0, 6, .inl (fun _ => 0))), (u1 2, .inl (gc G 0, 6, .inl (fun _ => 0))), (u1 3, .inl (gc G 0, 6, .inl (fun _ => 0))), (u1 4, .inl (gc G 0, 6, .inl (fun _ => 0))), (q2, .inr (7, [.ref (u2 0), .ref (u2 1), .int 0])), (u2 0, .inl (gc G 0, 3, .inl (fun _ => 0))), (u2 1, .inl (gc G 0, 3, .inl (fun _ => 0))), (q3, .inr (0, [.ref (u3 0), .ref (u3 1), .ref (u3 2), .ref (u3 3), .ref (u3 4), .int 0])), (u3 0, .inl (gc G 0, 30, .inl (fun _ => 0))), (u3 1, .inl (gc G 0, 30, .inl (fun _ => 0))), (u3 2, .inl (gc G 0, 30, .inl (fun _ => 0))), (u3 3, .inl (gc G 0, 30, .inl (fun _ => 0))), (u3 4, .inl (gc G 0, 30, .inl (fun _ => 0)))] from rfl) ?_
  refine J_putF (ws' := [(v, .inr (8, [.ref q0, .ref q1, .ref q2, .ref q3, .null, .int 0, .int 0, .int 0, .int 0, .int 0, .int 0, .int 0, .int 0, .int 0])), (q0, .inr (9, [.ref (u0 0), .ref (u0 1), .ref (u0 2), .int 0])), (u0 0, .inl (gc G 0, 6, .inl (fun _ => 0))), (u0 1, .inl (gc G 0, 6, .inl (fun _ => 0))), (u0 2, .inl (gc G 0, 6, .inl (fun _ => 0))), (q1, .inr (2, [.ref (u1 0), .ref (u1 1), .ref (u1 2), .ref (u1 3), .ref (u1 4), .int 0])), (u1 0, .inl (gc G 0, 6, .inl (fun _ => 0))), (u1 1, .inl (gc G 0, 6, .inl (fun _ => 0))), (u1 2, .inl (gc G 0, 6, .inl (fun _ => 0))), (u1 3, .inl (gc G 0, 6, .inl (fun _ => 0))), (u1 4, .inl (gc G 0, 6, .inl (fun _ => 0))), (q2, .inr (7, [.ref (u2 0), .ref (u2 1), .int 0])), (u2 0, .inl (gc G 0, 3, .inl (fun _ => 0))), (u2 1, .inl (gc G 0, 3, .inl (fun _ => 0))), (q3, .inr (0, [.ref (u3 0), .ref (u3 1), .ref (u3 2), .ref (u3 3), .ref (u3 4), .int 0])), (u3 0, .inl (gc G 0, 30, .inl (fun _ => 0))), (u3 1, .inl (gc G 0, 30, .inl (fun _ => 0))), (u3 2, .inl (gc G 0, 30, .inl (fun _ => 0))), (u3 3, .inl (gc G 0, 30, .inl (fun _ => 0))), (u3 4, .inl (gc G 0, 30, .inl (fun _ => 0)))]) hC wu_X8 rfl tyX8_ok nmX8 hin dX8_init_45 0 3 (by decide) wf_X8_35 rfl rfl rfl (Nat.le_of_ble_eq_true rfl) rfl rfl rfl ?_
  refine J_aload_n hC dX8_init_48 0 rfl rfl ?_
  refine J_new (ci := 4) hC [.null, .int 0] wu_X4 rfl tyX4_ok dX8_init_49 wk_X8_39 wt_X4 wi_X4 (fun j hj => by rcases (show j = 0 ∨ j = 1 by omega) with rfl | rfl <;> rfl) (by decide) (by decide) (fun q4 => ?_)
  refine J_wq (show _ = [(v, .inr (8, [.ref q0, .ref q1, .ref q2, .ref q3, .null, .int 0, .int 0, .int 0, .int 0, .int 0, .int 0, .int 0, .int 0, .int 0])), (q0, .inr (9, [.ref (u0 0), .ref (u0 1), .ref (u0 2), .int 0])), (u0 0, .inl (gc G 0, 6, .inl (fun _ => 0))), (u0 1, .inl (gc G 0, 6, .inl (fun _ => 0))), (u0 2, .inl (gc G 0, 6, .inl (fun _ => 0))), (q1, .inr (2, [.ref (u1 0), .ref (u1 1), .ref (u1 2), .ref (u1 3), .ref (u1 4), .int 0])), (u1 0, .inl (gc G 0, 6, .inl (fun _ => 0))), (u1 1, .inl (gc G 0, 6, .inl (fun _ => 0))), (u1 2, .inl (gc G 0, 6, .inl (fun _ => 0))), (u1 3, .inl (gc G 0, 6, .inl (fun _ => 0))), (u1 4, .inl (gc G 0, 6, .inl (fun _ => 0))), (q2, .inr (7, [.ref (u2 0), .ref (u2 1), .int 0])), (u2 0, .inl (gc G 0, 3, .inl (fun _ => 0))), (u2 1, .inl (gc G 0, 3, .inl (fun _ => 0))), (q3, .inr (0, [.ref (u3 0), .ref (u3 1), .ref (u3 2), .ref (u3 3), .ref (u3 4), .int 0])), (u3 0, .inl (gc G 0, 30, .inl (fun _ => 0))), (u3 1, .inl (gc G 0, 30, .inl (fun _ => 0))), (u3 2, .inl (gc G 0, 30, .inl (fun _ => 0))), (u3 3, .inl (gc G 0, 30, .inl (fun _ => 0))), (u3 4, .inl (gc G 0, 30, .inl (fun _ => 0))), (q4, .inr (4, [.null, .int 0]))] from rfl) ?_
  refine J_dup hC dX8_init_52 rfl ?_
  refine J_callCN hC dX8_init_53 wln_X8_41 yc_X4 (appr_v ([(v, .inr (8, [.ref q0, .ref q1, .ref q2, .ref q3, .null, .int 0, .int 0, .int 0, .int 0, .int 0, .int 0, .int 0, .int 0, .int 0])), (q0, .inr (9, [.ref (u0 0), .ref (u0 1), .ref (u0 2), .int 0])), (u0 0, .inl (gc G 0, 6, .inl (fun _ => 0))), (u0 1, .inl (gc G 0, 6, .inl (fun _ => 0))), (u0 2, .inl (gc G 0, 6, .inl (fun _ => 0))), (q1, .inr (2, [.ref (u1 0), .ref (u1 1), .ref (u1 2), .ref (u1 3), .ref (u1 4), .int 0])), (u1 0, .inl (gc G 0, 6, .inl (fun _ => 0))), (u1 1, .inl (gc G 0, 6, .inl (fun _ => 0))), (u1 2, .inl (gc G 0, 6, .inl (fun _ => 0))), (u1 3, .inl (gc G 0, 6, .inl (fun _ => 0))), (u1 4, .inl (gc G 0, 6, .inl (fun _ => 0))), (q2, .inr (7, [.ref (u2 0), .ref (u2 1), .int 0])), (u2 0, .inl (gc G 0, 3, .inl (fun _ => 0))), (u2 1, .inl (gc G 0, 3, .inl (fun _ => 0))), (q3, .inr (0, [.ref (u3 0), .ref (u3 1), .ref (u3 2), .ref (u3 3), .ref (u3 4), .int 0])), (u3 0, .inl (gc G 0, 30, .inl (fun _ => 0))), (u3 1, .inl (gc G 0, 30, .inl (fun _ => 0))), (u3 2, .inl (gc G 0, 30, .inl (fun _ => 0))), (u3 3, .inl (gc G 0, 30, .inl (fun _ => 0))), (u3 4, .inl (gc G 0, 30, .inl (fun _ => 0)))]) (c_X4_init _ G q4)) rfl rfl ⟨Nat.le_of_ble_eq_true rfl, Nat.le_of_ble_eq_true rfl⟩ (Nat.le_of_ble_eq_true rfl) (Nat.le_of_ble_eq_true rfl) (Nat.le_of_ble_eq_true rfl) (fun u4 _ => ?_)
  refine J_wq (show _ = [(v, .inr (8, [.ref q0, .ref q1, .ref q2, .ref q3, .null, .int 0, .int 0, .int 0, .int 0, .int 0, .int 0, .int 0, .int 0, .int 0])), (q0, .inr (9, [.ref (u0 0), .ref (u0 1), .ref (u0 2), .int 0])), (u0 0, .inl (gc G 0, 6, .inl (fun _ => 0))), (u0 1, .inl (gc G 0, 6, .inl (fun _ => 0))), (u0 2, .inl (gc G 0, 6, .inl (fun _ => 0))), (q1, .inr (2, [.ref (u1 0), .ref (u1 1), .ref (u1 2), .ref (u1 3), .ref (u1 4), .int 0])), (u1 0, .inl (gc G 0, 6, .inl (fun _ => 0))), (u1 1, .inl (gc G 0, 6, .inl (fun _ => 0))), (u1 2, .inl (gc G 0, 6, .inl (fun _ => 0))), (u1 3, .inl (gc G 0, 6, .inl (fun _ => 0))), (u1 4, .inl (gc G 0, 6, .inl (fun _ => 0))), (q2, .inr (7, [.ref (u2 0), .ref (u2 1), .int 0])), (u2 0, .inl (gc G 0, 3, .inl (fun _ => 0))), (u2 1, .inl (gc G 0, 3, .inl (fun _ => 0))), (q3, .inr (0, [.ref (u3 0), .ref (u3 1), .ref (u3 2), .ref (u3 3), .ref (u3 4), .int 0])), (u3 0, .inl (gc G 0, 30, .inl (fun _ => 0))), (u3 1, .inl (gc G 0, 30, .inl (fun _ => 0))), (u3 2, .inl (gc G 0, 30, .inl (fun _ => 0))), (u3 3, .inl (gc G 0, 30, .inl (fun _ => 0))), (u3 4, .inl (gc G 0, 30, .inl (fun _ => 0))), (q4, .inr (4, [.ref (u4 0), .int 0])), (u4 0, .inl (gc G 0, 10, .inl (fun _ => 0)))] from rfl) ?_
  refine J_putF (ws' := [(v, .inr (8, [.ref q0, .ref q1, .ref q2, .ref q3, .ref q4, .int 0, .int 0, .int 0, .int 0, .int 0, .int 0, .int 0, .int 0, .int 0])), (q0, .inr (9, [.ref (u0 0), .ref (u0 1), .ref (u0 2), .int 0])), (u0 0, .inl (gc G 0, 6, .inl (fun _ => 0))), (u0 1, .inl (gc G 0, 6, .inl (fun _ => 0))), (u0 2, .inl (gc G 0, 6, .inl (fun _ => 0))), (q1, .inr (2, [.ref (u1 0), .ref (u1 1), .ref (u1 2), .ref (u1 3), .ref (u1 4), .int 0])), (u1 0, .inl (gc G 0, 6, .inl (fun _ => 0))), (u1 1, .inl (gc G 0, 6, .inl (fun _ => 0))), (u1 2, .inl (gc G 0, 6, .inl (fun _ => 0))), (u1 3, .inl (gc G 0, 6, .inl (fun _ => 0))), (u1 4, .inl (gc G 0, 6, .inl (fun _ => 0))), (q2, .inr (7, [.ref (u2 0), .ref (u2 1), .int 0])), (u2 0, .inl (gc G 0, 3, .inl (fun _ => 0))), (u2 1, .inl (gc G 0, 3, .inl (fun _ => 0))), (q3, .inr (0, [.ref (u3 0), .ref (u3 1), .ref (u3 2), .ref (u3 3), .ref (u3 4), .int 0])), (u3 0, .inl (gc G 0, 30, .inl (fun _ => 0))), (u3 1, .inl (gc G 0, 30, .inl (fun _ => 0))), (u3 2, .inl (gc G 0, 30, .inl (fun _ => 0))), (u3 3, .inl (gc G 0, 30, .inl (fun _ => 0))), (u3 4, .inl (gc G 0, 30, .inl (fun _ => 0))), (q4, .inr (4, [.ref (u4 0), .int 0])), (u4 0, .inl (gc G 0, 10, .inl (fun _ => 0)))]) hC wu_X8 rfl tyX8_ok nmX8 hin dX8_init_56 0 4 (by decide) wf_X8_42 rfl rfl rfl (Nat.le_of_ble_eq_true rfl) rfl rfl rfl ?_
  refine J_aload_n hC dX8_init_59 0 rfl rfl ?_
  refine J_iconst (v := 0) hC dX8_init_60 rfl ?_
  refine J_put (ws' := [(v, .inr (8, [.ref q0, .ref q1, .ref q2, .ref q3, .ref q4, .int 0, .int 0, .int 0, .int 0, .int 0, .int 0, .int 0, .int 0, .int 0])), (q0, .inr (9, [.ref (u0 0), .ref (u0 1), .ref (u0 2), .int 0])), (u0 0, .inl (gc G 0, 6, .inl (fun _ => 0))), (u0 1, .inl (gc G 0, 6, .inl (fun _ => 0))), (u0 2, .inl (gc G 0, 6, .inl (fun _ => 0))), (q1, .inr (2, [.ref (u1 0), .ref (u1 1), .ref (u1 2), .ref (u1 3), .ref (u1 4), .int 0])), (u1 0, .inl (gc G 0, 6, .inl (fun _ => 0))), (u1 1, .inl (gc G 0, 6, .inl (fun _ => 0))), (u1 2, .inl (gc G 0, 6, .inl (fun _ => 0))), (u1 3, .inl (gc G 0, 6, .inl (fun _ => 0))), (u1 4, .inl (gc G 0, 6, .inl (fun _ => 0))), (q2, .inr (7, [.ref (u2 0), .ref (u2 1), .int 0])), (u2 0, .inl (gc G 0, 3, .inl (fun _ => 0))), (u2 1, .inl (gc G 0, 3, .inl (fun _ => 0))), (q3, .inr (0, [.ref (u3 0), .ref (u3 1), .ref (u3 2), .ref (u3 3), .ref (u3 4), .int 0])), (u3 0, .inl (gc G 0, 30, .inl (fun _ => 0))), (u3 1, .inl (gc G 0, 30, .inl (fun _ => 0))), (u3 2, .inl (gc G 0, 30, .inl (fun _ => 0))), (u3 3, .inl (gc G 0, 30, .inl (fun _ => 0))), (u3 4, .inl (gc G 0, 30, .inl (fun _ => 0))), (q4, .inr (4, [.ref (u4 0), .int 0])), (u4 0, .inl (gc G 0, 10, .inl (fun _ => 0)))]) hC wu_X8 rfl tyX8_ok nmX8 dX8_init_61 0 5 (by decide) wf_X8_46 rfl rfl (Nat.le_of_ble_eq_true rfl) rfl rfl rfl ?_
  refine J_aload_n hC dX8_init_64 0 rfl rfl ?_
  refine J_iconst (v := 0) hC dX8_init_65 rfl ?_
  refine J_put (ws' := [(v, .inr (8, [.ref q0, .ref q1, .ref q2, .ref q3, .ref q4, .int 0, .int 0, .int 0, .int 0, .int 0, .int 0, .int 0, .int 0, .int 0])), (q0, .inr (9, [.ref (u0 0), .ref (u0 1), .ref (u0 2), .int 0])), (u0 0, .inl (gc G 0, 6, .inl (fun _ => 0))), (u0 1, .inl (gc G 0, 6, .inl (fun _ => 0))), (u0 2, .inl (gc G 0, 6, .inl (fun _ => 0))), (q1, .inr (2, [.ref (u1 0), .ref (u1 1), .ref (u1 2), .ref (u1 3), .ref (u1 4), .int 0])), (u1 0, .inl (gc G 0, 6, .inl (fun _ => 0))), (u1 1, .inl (gc G 0, 6, .inl (fun _ => 0))), (u1 2, .inl (gc G 0, 6, .inl (fun _ => 0))), (u1 3, .inl (gc G 0, 6, .inl (fun _ => 0))), (u1 4, .inl (gc G 0, 6, .inl (fun _ => 0))), (q2, .inr (7, [.ref (u2 0), .ref (u2 1), .int 0])), (u2 0, .inl (gc G 0, 3, .inl (fun _ => 0))), (u2 1, .inl (gc G 0, 3, .inl (fun _ => 0))), (q3, .inr (0, [.ref (u3 0), .ref (u3 1), .ref (u3 2), .ref (u3 3), .ref (u3 4), .int 0])), (u3 0, .inl (gc G 0, 30, .inl (fun _ => 0))), (u3 1, .inl (gc G 0, 30, .inl (fun _ => 0))), (u3 2, .inl (gc G 0, 30, .inl (fun _ => 0))), (u3 3, .inl (gc G 0, 30, .inl (fun _ => 0))), (u3 4, .inl (gc G 0, 30, .inl (fun _ => 0))), (q4, .inr (4, [.ref (u4 0), .int 0])), (u4 0, .inl (gc G 0, 10, .inl (fun _ => 0)))]) hC wu_X8 rfl tyX8_ok nmX8 dX8_init_66 0 6 (by decide) wf_X8_50 rfl rfl (Nat.le_of_ble_eq_true rfl) rfl rfl rfl ?_
  refine J_aload_n hC dX8_init_69 0 rfl rfl ?_
  refine J_iconst (v := 0) hC dX8_init_70 rfl ?_
  refine J_put (ws' := [(v, .inr (8, [.ref q0, .ref q1, .ref q2, .ref q3, .ref q4, .int 0, .int 0, .int 0, .int 0, .int 0, .int 0, .int 0, .int 0, .int 0])), (q0, .inr (9, [.ref (u0 0), .ref (u0 1), .ref (u0 2), .int 0])), (u0 0, .inl (gc G 0, 6, .inl (fun _ => 0))), (u0 1, .inl (gc G 0, 6, .inl (fun _ => 0))), (u0 2, .inl (gc G 0, 6, .inl (fun _ => 0))), (q1, .inr (2, [.ref (u1 0), .ref (u1 1), .ref (u1 2), .ref (u1 3), .ref (u1 4), .int 0])), (u1 0, .inl (gc G 0, 6, .inl (fun _ => 0))), (u1 1, .inl (gc G 0, 6, .inl (fun _ => 0))), (u1 2, .inl (gc G 0, 6, .inl (fun _ => 0))), (u1 3, .inl (gc G 0, 6, .inl (fun _ => 0))), (u1 4, .inl (gc G 0, 6, .inl (fun _ => 0))), (q2, .inr (7, [.ref (u2 0), .ref (u2 1), .int 0])), (u2 0, .inl (gc G 0, 3, .inl (fun _ => 0))), (u2 1, .inl (gc G 0, 3, .inl (fun _ => 0))), (q3, .inr (0, [.ref (u3 0), .ref (u3 1), .ref (u3 2), .ref (u3 3), .ref (u3 4), .int 0])), (u3 0, .inl (gc G 0, 30, .inl (fun _ => 0))), (u3 1, .inl (gc G 0, 30, .inl (fun _ => 0))), (u3 2, .inl (gc G 0, 30, .inl (fun _ => 0))), (u3 3, .inl (gc G 0, 30, .inl (fun _ => 0))), (u3 4, .inl (gc G 0, 30, .inl (fun _ => 0))), (q4, .inr (4, [.ref (u4 0), .int 0])), (u4 0, .inl (gc G 0, 10, .inl (fun _ => 0)))]) hC wu_X8 rfl tyX8_ok nmX8 dX8_init_71 0 7 (by decide) wf_X8_53 rfl rfl (Nat.le_of_ble_eq_true rfl) rfl rfl rfl ?_
  refine J_aload_n hC dX8_init_74 0 rfl rfl ?_
  refine J_iconst (v := 0) hC dX8_init_75 rfl ?_
  refine J_put (ws' := [(v, .inr (8, [.ref q0, .ref q1, .ref q2, .ref q3, .ref q4, .int 0, .int 0, .int 0, .int 0, .int 0, .int 0, .int 0, .int 0, .int 0])), (q0, .inr (9, [.ref (u0 0), .ref (u0 1), .ref (u0 2), .int 0])), (u0 0, .inl (gc G 0, 6, .inl (fun _ => 0))), (u0 1, .inl (gc G 0, 6, .inl (fun _ => 0))), (u0 2, .inl (gc G 0, 6, .inl (fun _ => 0))), (q1, .inr (2, [.ref (u1 0), .ref (u1 1), .ref (u1 2), .ref (u1 3), .ref (u1 4), .int 0])), (u1 0, .inl (gc G 0, 6, .inl (fun _ => 0))), (u1 1, .inl (gc G 0, 6, .inl (fun _ => 0))), (u1 2, .inl (gc G 0, 6, .inl (fun _ => 0))), (u1 3, .inl (gc G 0, 6, .inl (fun _ => 0))), (u1 4, .inl (gc G 0, 6, .inl (fun _ => 0))), (q2, .inr (7, [.ref (u2 0), .ref (u2 1), .int 0])), (u2 0, .inl (gc G 0, 3, .inl (fun _ => 0))), (u2 1, .inl (gc G 0, 3, .inl (fun _ => 0))), (q3, .inr (0, [.ref (u3 0), .ref (u3 1), .ref (u3 2), .ref (u3 3), .ref (u3 4), .int 0])), (u3 0, .inl (gc G 0, 30, .inl (fun _ => 0))), (u3 1, .inl (gc G 0, 30, .inl (fun _ => 0))), (u3 2, .inl (gc G 0, 30, .inl (fun _ => 0))), (u3 3, .inl (gc G 0, 30, .inl (fun _ => 0))), (u3 4, .inl (gc G 0, 30, .inl (fun _ => 0))), (q4, .inr (4, [.ref (u4 0), .int 0])), (u4 0, .inl (gc G 0, 10, .inl (fun _ => 0)))]) hC wu_X8 rfl tyX8_ok nmX8 dX8_init_76 0 8 (by decide) wf_X8_56 rfl rfl (Nat.le_of_ble_eq_true rfl) rfl rfl rfl ?_
  refine J_aload_n hC dX8_init_79 0 rfl rfl ?_
  refine J_iconst (v := 0) hC dX8_init_80 rfl ?_
  refine J_put (ws' := [(v, .inr (8, [.ref q0, .ref q1, .ref q2, .ref q3, .ref q4, .int 0, .int 0, .int 0, .int 0, .int 0, .int 0, .int 0, .int 0, .int 0])), (q0, .inr (9, [.ref (u0 0), .ref (u0 1), .ref (u0 2), .int 0])), (u0 0, .inl (gc G 0, 6, .inl (fun _ => 0))), (u0 1, .inl (gc G 0, 6, .inl (fun _ => 0))), (u0 2, .inl (gc G 0, 6, .inl (fun _ => 0))), (q1, .inr (2, [.ref (u1 0), .ref (u1 1), .ref (u1 2), .ref (u1 3), .ref (u1 4), .int 0])), (u1 0, .inl (gc G 0, 6, .inl (fun _ => 0))), (u1 1, .inl (gc G 0, 6, .inl (fun _ => 0))), (u1 2, .inl (gc G 0, 6, .inl (fun _ => 0))), (u1 3, .inl (gc G 0, 6, .inl (fun _ => 0))), (u1 4, .inl (gc G 0, 6, .inl (fun _ => 0))), (q2, .inr (7, [.ref (u2 0), .ref (u2 1), .int 0])), (u2 0, .inl (gc G 0, 3, .inl (fun _ => 0))), (u2 1, .inl (gc G 0, 3, .inl (fun _ => 0))), (q3, .inr (0, [.ref (u3 0), .ref (u3 1), .ref (u3 2), .ref (u3 3), .ref (u3 4), .int 0])), (u3 0, .inl (gc G 0, 30, .inl (fun _ => 0))), (u3 1, .inl (gc G 0, 30, .inl (fun _ => 0))), (u3 2, .inl (gc G 0, 30, .inl (fun _ => 0))), (u3 3, .inl (gc G 0, 30, .inl (fun _ => 0))), (u3 4, .inl (gc G 0, 30, .inl (fun _ => 0))), (q4, .inr (4, [.ref (u4 0), .int 0])), (u4 0, .inl (gc G 0, 10, .inl (fun _ => 0)))]) hC wu_X8 rfl tyX8_ok nmX8 dX8_init_81 0 9 (by decide) wf_X8_59 rfl rfl (Nat.le_of_ble_eq_true rfl) rfl rfl rfl ?_
  refine J_aload_n hC dX8_init_84 0 rfl rfl ?_
  refine J_iconst (v := 0) hC dX8_init_85 rfl ?_
  refine J_put (ws' := [(v, .inr (8, [.ref q0, .ref q1, .ref q2, .ref q3, .ref q4, .int 0, .int 0, .int 0, .int 0, .int 0, .int 0, .int 0, .int 0, .int 0])), (q0, .inr (9, [.ref (u0 0), .ref (u0 1), .ref (u0 2), .int 0])), (u0 0, .inl (gc G 0, 6, .inl (fun _ => 0))), (u0 1, .inl (gc G 0, 6, .inl (fun _ => 0))), (u0 2, .inl (gc G 0, 6, .inl (fun _ => 0))), (q1, .inr (2, [.ref (u1 0), .ref (u1 1), .ref (u1 2), .ref (u1 3), .ref (u1 4), .int 0])), (u1 0, .inl (gc G 0, 6, .inl (fun _ => 0))), (u1 1, .inl (gc G 0, 6, .inl (fun _ => 0))), (u1 2, .inl (gc G 0, 6, .inl (fun _ => 0))), (u1 3, .inl (gc G 0, 6, .inl (fun _ => 0))), (u1 4, .inl (gc G 0, 6, .inl (fun _ => 0))), (q2, .inr (7, [.ref (u2 0), .ref (u2 1), .int 0])), (u2 0, .inl (gc G 0, 3, .inl (fun _ => 0))), (u2 1, .inl (gc G 0, 3, .inl (fun _ => 0))), (q3, .inr (0, [.ref (u3 0), .ref (u3 1), .ref (u3 2), .ref (u3 3), .ref (u3 4), .int 0])), (u3 0, .inl (gc G 0, 30, .inl (fun _ => 0))), (u3 1, .inl (gc G 0, 30, .inl (fun _ => 0))), (u3 2, .inl (gc G 0, 30, .inl (fun _ => 0))), (u3 3, .inl (gc G 0, 30, .inl (fun _ => 0))), (u3 4, .inl (gc G 0, 30, .inl (fun _ => 0))), (q4, .inr (4, [.ref (u4 0), .int 0])), (u4 0, .inl (gc G 0, 10, .inl (fun _ => 0)))]) hC wu_X8 rfl tyX8_ok nmX8 dX8_init_86 0 10 (by decide) wf_X8_62 rfl rfl (Nat.le_of_ble_eq_true rfl) rfl rfl rfl ?_
  refine J_aload_n hC dX8_init_89 0 rfl rfl ?_
  refine J_iconst (v := 0) hC dX8_init_90 rfl ?_
  refine J_put (ws' := [(v, .inr (8, [.ref q0, .ref q1, .ref q2, .ref q3, .ref q4, .int 0, .int 0, .int 0, .int 0, .int 0, .int 0, .int 0, .int 0, .int 0])), (q0, .inr (9, [.ref (u0 0), .ref (u0 1), .ref (u0 2), .int 0])), (u0 0, .inl (gc G 0, 6, .inl (fun _ => 0))), (u0 1, .inl (gc G 0, 6, .inl (fun _ => 0))), (u0 2, .inl (gc G 0, 6, .inl (fun _ => 0))), (q1, .inr (2, [.ref (u1 0), .ref (u1 1), .ref (u1 2), .ref (u1 3), .ref (u1 4), .int 0])), (u1 0, .inl (gc G 0, 6, .inl (fun _ => 0))), (u1 1, .inl (gc G 0, 6, .inl (fun _ => 0))), (u1 2, .inl (gc G 0, 6, .inl (fun _ => 0))), (u1 3, .inl (gc G 0, 6, .inl (fun _ => 0))), (u1 4, .inl (gc G 0, 6, .inl (fun _ => 0))), (q2, .inr (7, [.ref (u2 0), .ref (u2 1), .int 0])), (u2 0, .inl (gc G 0, 3, .inl (fun _ => 0))), (u2 1, .inl (gc G 0, 3, .inl (fun _ => 0))), (q3, .inr (0, [.ref (u3 0), .ref (u3 1), .ref (u3 2), .ref (u3 3), .ref (u3 4), .int 0])), (u3 0, .inl (gc G 0, 30, .inl (fun _ => 0))), (u3 1, .inl (gc G 0, 30, .inl (fun _ => 0))), (u3 2, .inl (gc G 0, 30, .inl (fun _ => 0))), (u3 3, .inl (gc G 0, 30, .inl (fun _ => 0))), (u3 4, .inl (gc G 0, 30, .inl (fun _ => 0))), (q4, .inr (4, [.ref (u4 0), .int 0])), (u4 0, .inl (gc G 0, 10, .inl (fun _ => 0)))]) hC wu_X8 rfl tyX8_ok nmX8 dX8_init_91 0 11 (by decide) wf_X8_65 rfl rfl (Nat.le_of_ble_eq_true rfl) rfl rfl rfl ?_
  refine J_aload_n hC dX8_init_94 0 rfl rfl ?_
  refine J_iconst (v := 0) hC dX8_init_95 rfl ?_
  refine J_put (ws' := [(v, .inr (8, [.ref q0, .ref q1, .ref q2, .ref q3, .ref q4, .int 0, .int 0, .int 0, .int 0, .int 0, .int 0, .int 0, .int 0, .int 0])), (q0, .inr (9, [.ref (u0 0), .ref (u0 1), .ref (u0 2), .int 0])), (u0 0, .inl (gc G 0, 6, .inl (fun _ => 0))), (u0 1, .inl (gc G 0, 6, .inl (fun _ => 0))), (u0 2, .inl (gc G 0, 6, .inl (fun _ => 0))), (q1, .inr (2, [.ref (u1 0), .ref (u1 1), .ref (u1 2), .ref (u1 3), .ref (u1 4), .int 0])), (u1 0, .inl (gc G 0, 6, .inl (fun _ => 0))), (u1 1, .inl (gc G 0, 6, .inl (fun _ => 0))), (u1 2, .inl (gc G 0, 6, .inl (fun _ => 0))), (u1 3, .inl (gc G 0, 6, .inl (fun _ => 0))), (u1 4, .inl (gc G 0, 6, .inl (fun _ => 0))), (q2, .inr (7, [.ref (u2 0), .ref (u2 1), .int 0])), (u2 0, .inl (gc G 0, 3, .inl (fun _ => 0))), (u2 1, .inl (gc G 0, 3, .inl (fun _ => 0))), (q3, .inr (0, [.ref (u3 0), .ref (u3 1), .ref (u3 2), .ref (u3 3), .ref (u3 4), .int 0])), (u3 0, .inl (gc G 0, 30, .inl (fun _ => 0))), (u3 1, .inl (gc G 0, 30, .inl (fun _ => 0))), (u3 2, .inl (gc G 0, 30, .inl (fun _ => 0))), (u3 3, .inl (gc G 0, 30, .inl (fun _ => 0))), (u3 4, .inl (gc G 0, 30, .inl (fun _ => 0))), (q4, .inr (4, [.ref (u4 0), .int 0])), (u4 0, .inl (gc G 0, 10, .inl (fun _ => 0)))]) hC wu_X8 rfl tyX8_ok nmX8 dX8_init_96 0 12 (by decide) wf_X8_68 rfl rfl (Nat.le_of_ble_eq_true rfl) rfl rfl rfl ?_
  refine J_aload_n hC dX8_init_99 0 rfl rfl ?_
  refine J_iconst (v := 0) hC dX8_init_100 rfl ?_
  refine J_put (ws' := [(v, .inr (8, [.ref q0, .ref q1, .ref q2, .ref q3, .ref q4, .int 0, .int 0, .int 0, .int 0, .int 0, .int 0, .int 0, .int 0, .int 0])), (q0, .inr (9, [.ref (u0 0), .ref (u0 1), .ref (u0 2), .int 0])), (u0 0, .inl (gc G 0, 6, .inl (fun _ => 0))), (u0 1, .inl (gc G 0, 6, .inl (fun _ => 0))), (u0 2, .inl (gc G 0, 6, .inl (fun _ => 0))), (q1, .inr (2, [.ref (u1 0), .ref (u1 1), .ref (u1 2), .ref (u1 3), .ref (u1 4), .int 0])), (u1 0, .inl (gc G 0, 6, .inl (fun _ => 0))), (u1 1, .inl (gc G 0, 6, .inl (fun _ => 0))), (u1 2, .inl (gc G 0, 6, .inl (fun _ => 0))), (u1 3, .inl (gc G 0, 6, .inl (fun _ => 0))), (u1 4, .inl (gc G 0, 6, .inl (fun _ => 0))), (q2, .inr (7, [.ref (u2 0), .ref (u2 1), .int 0])), (u2 0, .inl (gc G 0, 3, .inl (fun _ => 0))), (u2 1, .inl (gc G 0, 3, .inl (fun _ => 0))), (q3, .inr (0, [.ref (u3 0), .ref (u3 1), .ref (u3 2), .ref (u3 3), .ref (u3 4), .int 0])), (u3 0, .inl (gc G 0, 30, .inl (fun _ => 0))), (u3 1, .inl (gc G 0, 30, .inl (fun _ => 0))), (u3 2, .inl (gc G 0, 30, .inl (fun _ => 0))), (u3 3, .inl (gc G 0, 30, .inl (fun _ => 0))), (u3 4, .inl (gc G 0, 30, .inl (fun _ => 0))), (q4, .inr (4, [.ref (u4 0), .int 0])), (u4 0, .inl (gc G 0, 10, .inl (fun _ => 0)))]) hC wu_X8 rfl tyX8_ok nmX8 dX8_init_101 0 13 (by decide) wf_X8_71 rfl rfl (Nat.le_of_ble_eq_true rfl) rfl rfl rfl ?_
  exact J_vret hC hR dX8_init_104 (fun i => [v, q0, u0 0, u0 1, u0 2, q1, u1 0, u1 1, u1 2, u1 3, u1 4, q2, u2 0, u2 1, q3, u3 0, u3 1, u3 2, u3 3, u3 4, q4, u4 0].getD i 0) rfl rfl (by decide) (by decide)

set_option maxRecDepth 100000 in
set_option maxHeartbeats 4000000 in
theorem c_X6_init (l : Launch) (G : gT) (v b : Nat) : MV l yX6_init cX6_init 2 { frames := 1, cells := 0, slots := 0, locals := 20 } [.ref v, .ref b] G ([(v, .inr (6, [.null, .int 0, .int 0, .int 0, .int 0]))]) (fun (_ : Unit) => True) (fun _ => [(v, .inr (6, [.ref b, .int 0, .int 0, .int 0, .int 0]))]) := by
  refine jm_v (own := RX6) (by decide) rfl (Nat.le_of_ble_eq_true rfl) (fun x hl hC hR hin => ?_)
  subst hl
  refine J_aload_n hC dX6_init_0 0 rfl rfl ?_
  refine J_oinit hC dX6_init_1 wl_X6_3 (by decide) (by decide) ?_
  refine J_aload_n hC dX6_init_4 0 rfl rfl ?_
  refine J_iconst (v := 0) hC dX6_init_5 rfl ?_
  refine J_put (ws' := [(v, .inr (6, [.null, .int 0, .int 0, .int 0, .int 0]))]) hC wu_X6 rfl tyX6_ok nmX6 dX6_init_6 0 1 (by decide) wf_X6_11 rfl rfl (Nat.le_of_ble_eq_true rfl) rfl rfl rfl ?_
  refine J_aload_n hC dX6_init_9 0 rfl rfl ?_
  refine J_iconst (v := 0) hC dX6_init_10 rfl ?_
  refine J_put (ws' := [(v, .inr (6, [.null, .int 0, .int 0, .int 0, .int 0]))]) hC wu_X6 rfl tyX6_ok nmX6 dX6_init_11 0 2 (by decide) wf_X6_15 rfl rfl (Nat.le_of_ble_eq_true rfl) rfl rfl rfl ?_
  refine J_aload_n hC dX6_init_14 0 rfl rfl ?_
  refine J_iconst (v := 0) hC dX6_init_15 rfl ?_
  refine J_put (ws' := [(v, .inr (6, [.null, .int 0, .int 0, .int 0, .int 0]))]) hC wu_X6 rfl tyX6_ok nmX6 dX6_init_16 0 3 (by decide) wf_X6_18 rfl rfl (Nat.le_of_ble_eq_true rfl) rfl rfl rfl ?_
  refine J_aload_n hC dX6_init_19 0 rfl rfl ?_
  refine J_iconst (v := 0) hC dX6_init_20 rfl ?_
  refine J_put (ws' := [(v, .inr (6, [.null, .int 0, .int 0, .int 0, .int 0]))]) hC wu_X6 rfl tyX6_ok nmX6 dX6_init_21 0 4 (by decide) wf_X6_21 rfl rfl (Nat.le_of_ble_eq_true rfl) rfl rfl rfl ?_
  refine J_aload_n hC dX6_init_24 0 rfl rfl ?_
  refine J_aload_n hC dX6_init_25 1 rfl rfl ?_
  refine J_putF (ws' := [(v, .inr (6, [.ref b, .int 0, .int 0, .int 0, .int 0]))]) hC wu_X6 rfl tyX6_ok nmX6 hin dX6_init_26 0 0 (by decide) wf_X6_24 rfl rfl rfl (Nat.le_of_ble_eq_true rfl) rfl rfl rfl ?_
  exact J_vret hC hR dX6_init_29 () trivial rfl (by decide) (by decide)

set_option maxRecDepth 100000 in
set_option maxHeartbeats 4000000 in
theorem c_X5_init (l : Launch) (G : gT) (v b s : Nat) : MV l yX5_init cX5_init 3 { frames := 2, cells := 1, slots := 5, locals := 50 } [.ref v, .ref b, .ref s] G ([(v, .inr (5, [.null, .null, .int 0, .int 0]))]) (fun (_ : Nat) => True) (fun q => [(v, .inr (5, [.ref q, .ref s, .int 0, .int (-1)])), (q, .inr (6, [.ref b, .int 0, .int 0, .int 0, .int 0]))]) := by
  refine jm_v (own := RX5) (by decide) rfl (Nat.le_of_ble_eq_true rfl) (fun x hl hC hR hin => ?_)
  subst hl
  refine J_aload_n hC dX5_init_0 0 rfl rfl ?_
  refine J_oinit hC dX5_init_1 wl_X5_3 (by decide) (by decide) ?_
  refine J_aload_n hC dX5_init_4 0 rfl rfl ?_
  refine J_iconst (v := 0) hC dX5_init_5 rfl ?_
  refine J_put (ws' := [(v, .inr (5, [.null, .null, .int 0, .int 0]))]) hC wu_X5 rfl tyX5_ok nmX5 dX5_init_6 0 2 (by decide) wf_X5_9 rfl rfl (Nat.le_of_ble_eq_true rfl) rfl rfl rfl ?_
  refine J_aload_n hC dX5_init_9 0 rfl rfl ?_
  refine J_iconst (v := -1) hC dX5_init_10 rfl ?_
  refine J_put (ws' := [(v, .inr (5, [.null, .null, .int 0, .int (-1)]))]) hC wu_X5 rfl tyX5_ok nmX5 dX5_init_11 0 3 (by decide) wf_X5_15 rfl rfl (Nat.le_of_ble_eq_true rfl) rfl rfl rfl ?_
  refine J_aload_n hC dX5_init_14 0 rfl rfl ?_
  refine J_new (ci := 6) hC [.null, .int 0, .int 0, .int 0, .int 0] wu_X6 rfl tyX6_ok dX5_init_15 wk_X5_18 wt_X6 wi_X6 (fun j hj => by rcases (show j = 0 ∨ j = 1 ∨ j = 2 ∨ j = 3 ∨ j = 4 by omega) with rfl | rfl | rfl | rfl | rfl <;> rfl) (by decide) (by decide) (fun q => ?_)
  refine J_wq (show _ = [(v, .inr (5, [.null, .null, .int 0, .int (-1)])), (q, .inr (6, [.null, .int 0, .int 0, .int 0, .int 0]))] from rfl) ?_
  refine J_dup hC dX5_init_18 rfl ?_
  refine J_aload_n hC dX5_init_19 1 rfl rfl ?_
  refine J_callC hC dX5_init_20 wl_X5_20 yc_X6 (appr_v ([(v, .inr (5, [.null, .null, .int 0, .int (-1)]))]) (c_X6_init _ G q b)) rfl rfl ⟨Nat.le_of_ble_eq_true rfl, Nat.le_of_ble_eq_true rfl⟩ (Nat.le_of_ble_eq_true rfl) (Nat.le_of_ble_eq_true rfl) (Nat.le_of_ble_eq_true rfl) (fun u9 _ => ?_)
  refine J_wq (show _ = [(v, .inr (5, [.null, .null, .int 0, .int (-1)])), (q, .inr (6, [.ref b, .int 0, .int 0, .int 0, .int 0]))] from rfl) ?_
  refine J_putF (ws' := [(v, .inr (5, [.ref q, .null, .int 0, .int (-1)])), (q, .inr (6, [.ref b, .int 0, .int 0, .int 0, .int 0]))]) hC wu_X5 rfl tyX5_ok nmX5 hin dX5_init_23 0 0 (by decide) wf_X5_23 rfl rfl rfl (Nat.le_of_ble_eq_true rfl) rfl rfl rfl ?_
  refine J_aload_n hC dX5_init_26 0 rfl rfl ?_
  refine J_aload_n hC dX5_init_27 2 rfl rfl ?_
  refine J_putF (ws' := [(v, .inr (5, [.ref q, .ref s, .int 0, .int (-1)])), (q, .inr (6, [.ref b, .int 0, .int 0, .int 0, .int 0]))]) hC wu_X5 rfl tyX5_ok nmX5 hin dX5_init_28 0 1 (by decide) wf_X5_27 rfl rfl rfl (Nat.le_of_ble_eq_true rfl) rfl rfl rfl ?_
  exact J_vret hC hR dX5_init_31 q trivial rfl (by decide) (by decide)

theorem stW_len (G : gT) (a : Nat → Nat) (S : CT) : (stW G a S).length = 22 := rfl
theorem fm_len (G : gT) (A : Nat → Nat → Nat) (T : Nat → CT) : ∀ L : List Nat, (L.flatMap (fun i => stW G (A i) (T i))).length = 22 * L.length
  | [] => rfl
  | a :: L => by rw [List.flatMap_cons, List.length_append, fm_len G A T L, stW_len, List.length_cons]; omega
def hiP (A : Nat → Nat → Nat) (m i : Nat) : Option Nat := if i < m then some (A i 0) else none
def hiU (A : Nat → Nat → Nat) (m : Nat) (a : Nat → Nat) : Nat → Nat → Nat := fun i => if i = m then a else A i
theorem hiP_up (A : Nat → Nat → Nat) (m : Nat) (a : Nat → Nat) : va_up (hiP A m) m (some (a 0)) = hiP (hiU A m a) (m + 1) := by
  funext i
  unfold va_up hiP hiU
  by_cases h : i = m
  · subst h
    rw [if_pos rfl, if_pos (by omega), if_pos rfl]
  · rw [if_neg h, if_neg h]
    by_cases h2 : i < m
    · rw [if_pos h2, if_pos (by omega)]
    · rw [if_neg h2, if_neg (by omega)]
theorem hiU_fm (G : gT) (A : Nat → Nat → Nat) (m : Nat) (a : Nat → Nat) : (List.range m).flatMap (fun i => stW G (A i) Z0) ++ stW G a Z0 = (List.range (m + 1)).flatMap (fun i => stW G (hiU A m a i) Z0) := by
  rw [List.range_succ, List.flatMap_append]
  congr 1
  · refine fm_eq _ (fun i hi => ?_)
    have := List.mem_range.mp hi
    rw [hiU, if_neg (by omega)]
  · show _ = stW G (hiU A m a m) Z0 ++ []
    rw [hiU, if_pos rfl, List.append_nil]
def hiN (G : gT) (v r : Nat) (A : Nat → Nat → Nat) (m : Nat) : va_W := (v, .inr (3, [.ref r, .int 0, .int 0])) :: (r, .inl (gc G 3, 8, .inr (.inr (.inr (.inr (hiP A m)))))) :: (List.range m).flatMap (fun i => stW G (A i) Z0)
theorem hiN_len (G : gT) (v r : Nat) (A : Nat → Nat → Nat) (m : Nat) : (hiN G v r A m).length = 2 + 22 * m := by
  show ((List.range m).flatMap (fun i => stW G (A i) Z0)).length + 1 + 1 = _
  rw [fm_len G A (fun _ => Z0), List.length_range]
  omega
theorem hiN_8 (G : gT) (v r : Nat) (A : Nat → Nat → Nat) : hiN G v r A 8 = hiW G v r A 0 0 (fun _ => Z0) := rfl
set_option maxRecDepth 100000 in
set_option maxHeartbeats 4000000 in
theorem c_X3_init (l : Launch) (G : gT) (v : Nat) : MV l yX3_init cX3_init 2 { frames := 3, cells := 177, slots := 2000, locals := 62 } [.ref v] G ([(v, .inr (3, [.null, .int 0, .int 0]))]) (fun (_ : Nat × (Nat → Nat → Nat)) => True) (fun u => hiW G v u.1 u.2 0 0 (fun _ => Z0)) := by
  refine jm_v (own := RX3) (by decide) rfl (Nat.le_of_ble_eq_true rfl) (fun x hl hC hR hin => ?_)
  subst hl
  refine J_aload_n hC dX3_init_0 0 rfl rfl ?_
  refine J_oinit hC dX3_init_1 wl_X3_1 (by decide) (by decide) ?_
  refine J_aload_n hC dX3_init_4 0 rfl rfl ?_
  refine J_bipush (v := nI 8) hC dX3_init_5 rfl ?_
  refine J_newQ hC dX3_init_7 wk_X3_9 (by decide) (by decide) (by decide) (fun r => ?_)
  refine J_wq (show _ = [(v, .inr (3, [.null, .int 0, .int 0])), (r, .inl (gc G 3, 8, .inr (.inr (.inr (.inr (fun _ => none))))))] from rfl) ?_
  refine J_putF (ws' := [(v, .inr (3, [.ref r, .int 0, .int 0])), (r, .inl (gc G 3, 8, .inr (.inr (.inr (.inr (fun _ => none))))))]) hC wu_X3 rfl tyX3_ok nmX3 hin dX3_init_10 0 0 (by decide) wf_X3_11 rfl rfl rfl (Nat.le_of_ble_eq_true rfl) rfl rfl rfl ?_
  refine J_aload_n hC dX3_init_13 0 rfl rfl ?_
  refine J_iconst (v := 0) hC dX3_init_14 rfl ?_
  refine J_put (ws' := [(v, .inr (3, [.ref r, .int 0, .int 0])), (r, .inl (gc G 3, 8, .inr (.inr (.inr (.inr (fun _ => none))))))]) hC wu_X3 rfl tyX3_ok nmX3 dX3_init_15 0 1 (by decide) wf_X3_15 rfl rfl (Nat.le_of_ble_eq_true rfl) rfl rfl rfl ?_
  refine J_aload_n hC dX3_init_18 0 rfl rfl ?_
  refine J_iconst (v := 0) hC dX3_init_19 rfl ?_
  refine J_put (ws' := [(v, .inr (3, [.ref r, .int 0, .int 0])), (r, .inl (gc G 3, 8, .inr (.inr (.inr (.inr (fun _ => none))))))]) hC wu_X3 rfl tyX3_ok nmX3 dX3_init_20 0 2 (by decide) wf_X3_19 rfl rfl (Nat.le_of_ble_eq_true rfl) rfl rfl rfl ?_
  refine J_iconst (v := nI 0) hC dX3_init_23 rfl ?_
  refine J_istore_n hC [(1, .int (nI 0)), (0, .ref v)] dX3_init_24 rfl (by decide) rfl ?_
  suffices hlp : ∀ (m i : Nat) (A : Nat → Nat → Nat), i + m = 8 → J x G (hiN G v r A i) (1 + 22 * i) (8 + 249 * i) [(1, .int (nI i)), (0, .ref v)] [] 25 from J_wq (show _ = hiN G v r (fun _ _ => 0) 0 from by unfold hiN; simp [hiP]; rfl) (hlp 8 0 _ rfl)
  intro m
  induction m with
  | zero =>
    intro i A h8
    have hi8 : i = 8 := by omega
    subst hi8
    refine J_iload_n hC dX3_init_25 0 rfl rfl ?_
    refine J_bipush (v := nI 8) hC dX3_init_26 rfl ?_
    refine J_ic_geN (tgt := 50) hC dX3_init_28 (by decide) (by omega) (by omega) (fun c => ?_) (fun c => absurd c (by omega))
    exact J_vret hC hR dX3_init_50 (r, A) trivial rfl (by decide) (by decide)
  | succ m ih =>
    intro i A h8
    refine J_iload_n hC dX3_init_25 0 rfl rfl ?_
    refine J_bipush (v := nI 8) hC dX3_init_26 rfl ?_
    refine J_ic_geN (tgt := 50) hC dX3_init_28 (by decide) (by omega) (by omega) (fun c => absurd c (by omega)) (fun c => ?_)
    refine J_aload_n hC dX3_init_31 1 rfl rfl ?_
    refine J_get (v := .ref r) hC wu_X3 rfl dX3_init_32 0 0 (by decide) wf_X3_11 rfl rfl ?_
    refine J_iload_n hC dX3_init_35 0 rfl rfl ?_
    refine J_new (ci := 8) hC [.null, .null, .null, .null, .null, .int 0, .int 0, .int 0, .int 0, .int 0, .int 0, .int 0, .int 0, .int 0] wu_X8 rfl tyX8_ok dX3_init_36 wk_X3_9 wt_X8 wi_X8 (fun j hj => by rcases (show j = 0 ∨ j = 1 ∨ j = 2 ∨ j = 3 ∨ j = 4 ∨ j = 5 ∨ j = 6 ∨ j = 7 ∨ j = 8 ∨ j = 9 ∨ j = 10 ∨ j = 11 ∨ j = 12 ∨ j = 13 by omega) with rfl | rfl | rfl | rfl | rfl | rfl | rfl | rfl | rfl | rfl | rfl | rfl | rfl | rfl <;> rfl) (show 1 + 22 * i + 1 ≤ 177 by omega) (show 8 + 249 * i + 14 ≤ 2000 by omega) (fun q => ?_)
    refine J_dup hC dX3_init_39 rfl ?_
    refine J_callCN hC dX3_init_40 wln_X3_22 yc_X8 (appr_v (hiN G v r A i) (c_X8_init _ G q)) rfl rfl ⟨Nat.le_of_ble_eq_true rfl, Nat.le_of_ble_eq_true rfl⟩ (Nat.le_of_ble_eq_true rfl) (show 1 + 22 * i + 1 + 21 ≤ 177 by omega) (show 8 + 249 * i + 14 + 235 ≤ 2000 by omega) (fun a ha => ?_)
    subst ha
    obtain ⟨vs, hvs⟩ : ∃ vs, (hiN G v r A i ++ stW G a Z0)[2 + 22 * i]? = some (a 0, .inr (8, vs)) := by
      rw [List.getElem?_append_right (by rw [hiN_len]; exact Nat.le_refl _), hiN_len, Nat.sub_self]
      exact ⟨_, rfl⟩
    refine J_aast (ws' := hiN G v r (hiU A i a) (i + 1)) hC dX3_init_43 1 (2 + 22 * i) rfl hvs (show i < 8 by omega) (by decide) ?_ ?_
    · show (v, _) :: (r, .inl (gc G 3, 8, .inr (.inr (.inr (.inr (va_up (hiP A i) i (some (a 0)))))))) :: ((List.range i).flatMap (fun i => stW G (A i) Z0) ++ stW G a Z0) = _
      rw [hiP_up, hiU_fm]
      rfl
    · refine J_iinc hC [(1, .int (nI (i + 1))), (0, .ref v)] dX3_init_44 0 rfl (nI_inc i) (by decide) rfl ?_
      refine J_goto (tgt := 25) hC dX3_init_47 (by decide) ?_
      have := ih (i + 1) (hiU A i a) (by omega)
      rw [show 1 + 22 * (i + 1) = 1 + 22 * i + 1 + 21 by omega, show 8 + 249 * (i + 1) = 8 + 249 * i + 14 + 235 by omega] at this
      exact this


set_option maxRecDepth 100000 in
set_option maxHeartbeats 4000000 in
theorem c_X10_hasForecast (l : Launch) (G : gT) (o : Nat) (R a : Nat → Nat) (S : CT) (ec ep : Int32) (v d : Int32) (hI : CI S) (hst : l.stackTraces = false) : TI l yX10_hasForecast cX10_hasForecast 3 (some .boolean) { frames := 7, cells := 1, slots := 6, locals := 110 } [.ref o, .int v, .int d] G (oW G o R a S ec ep) (fun r (_ : Unit) => (¬ v < 0 ∧ v < nI (vcO S)) ∧ ((r = 1 ∧ ¬ s_placeOf S v d (bcO S) = -1) ∨ (r = 0 ∧ s_placeOf S v d (bcO S) = -1))) (fun _ => oW G o R a S ec ep) (fun (_ : Unit) => ¬ (¬ v < 0 ∧ v < nI (vcO S))) (fun _ => eIOOB) (fun _ => oW G o R a S ec ep) := by
  refine jt_i (own := RX10) hst (by decide) rfl (Nat.le_of_ble_eq_true rfl) (fun x hl hC hR hN => ?_)
  subst hl
  refine J_aload_n hC dX10_hasForecast_0 0 rfl rfl ?_
  refine J_iload_n hC dX10_hasForecast_1 1 rfl rfl ?_
  refine J_callTv hC hR.2 dX10_hasForecast_2 wl_X10_139 yi_X10_requireVillage (c_X10_requireVillage _ G o R a S ec ep v hI hst) rfl rfl 0 10 rfl rfl ⟨Nat.le_of_ble_eq_true rfl, Nat.le_of_ble_eq_true rfl⟩ (Nat.le_of_ble_eq_true rfl) (Nat.le_of_ble_eq_true rfl) (Nat.le_of_ble_eq_true rfl) (Nat.le_of_ble_eq_true rfl) (Nat.le_of_ble_eq_true rfl) (fun _ h => ⟨(), h, rfl, rfl⟩) (fun u h => ?_)
  refine J_wq (show _ = oW G o R a S ec ep from rfl) ?_
  refine J_aload_n hC dX10_hasForecast_5 0 rfl rfl ?_
  refine J_get (v := .ref (a 0)) hC wu_X10 rfl dX10_hasForecast_6 0 2 (by decide) wf_X10_22 rfl rfl ?_
  refine J_get (v := .ref (a 14)) hC wu_X8 rfl dX10_hasForecast_9 1 3 (by decide) wf_X10_149 rfl rfl ?_
  refine J_iload_n hC dX10_hasForecast_12 1 rfl rfl ?_
  refine J_iload_n hC dX10_hasForecast_13 2 rfl rfl ?_
  refine J_callVi hC dX10_hasForecast_14 wl_X10_186 yi_X0_placeOf (cons_i (c_X0_placeOf _ G a S (bcO S) v d hI.1.1 (by have := hI.1.2; omega))) rfl rfl 15 0 rfl rfl ⟨Nat.le_of_ble_eq_true rfl, Nat.le_of_ble_eq_true rfl⟩ (Nat.le_of_ble_eq_true rfl) (Nat.le_of_ble_eq_true rfl) (Nat.le_of_ble_eq_true rfl) (fun r u9 h9 => ?_)
  refine J_wq (show _ = oW G o R a S ec ep from rfl) ?_
  subst h9
  refine J_iconst (v := -1) hC dX10_hasForecast_17 rfl ?_
  refine J_ic_eq (tgt := 25) hC dX10_hasForecast_18 (by decide) (fun c => ?_) (fun c => ?_)
  · refine J_iconst (v := 0) hC dX10_hasForecast_25 rfl ?_
    exact J_iretT hC hR dX10_hasForecast_26 rfl () ⟨h, Or.inr ⟨rfl, c⟩⟩ rfl (Nat.le_of_ble_eq_true rfl) (Nat.le_of_ble_eq_true rfl)
  · refine J_iconst (v := 1) hC dX10_hasForecast_21 rfl ?_
    refine J_goto (tgt := 26) hC dX10_hasForecast_22 (by decide) ?_
    exact J_iretT hC hR dX10_hasForecast_26 rfl () ⟨h, Or.inl ⟨rfl, c⟩⟩ rfl (Nat.le_of_ble_eq_true rfl) (Nat.le_of_ble_eq_true rfl)

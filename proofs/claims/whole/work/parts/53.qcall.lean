set_option maxRecDepth 100000 in
set_option maxHeartbeats 4000000 in
theorem c_X10_forecastsFor (l : Launch) (G : gT) (o : Nat) (R a : Nat → Nat) (S : CT) (ec ep : Int32) (v : Int32) (hI : CI S) (hst : l.stackTraces = false) : TI l yX10_forecastsFor cX10_forecastsFor 2 (some .int) { frames := 7, cells := 1, slots := 6, locals := 110 } [.ref o, .int v] G (oW G o R a S ec ep) (fun r (_ : Unit) => (¬ v < 0 ∧ v < nI (vcO S)) ∧ r = s_countFor S v (bcO S)) (fun _ => oW G o R a S ec ep) (fun (_ : Unit) => ¬ (¬ v < 0 ∧ v < nI (vcO S))) (fun _ => eIOOB) (fun _ => oW G o R a S ec ep) := by
  refine jt_i (own := RX10) hst (by decide) rfl (Nat.le_of_ble_eq_true rfl) (fun x hl hC hR hN => ?_)
  subst hl
  refine J_aload_n hC dX10_forecastsFor_0 0 rfl rfl ?_
  refine J_iload_n hC dX10_forecastsFor_1 1 rfl rfl ?_
  refine J_callTv hC hR.2 dX10_forecastsFor_2 wl_X10_139 yi_X10_requireVillage (c_X10_requireVillage _ G o R a S ec ep v hI hst) rfl rfl 0 10 rfl rfl ⟨Nat.le_of_ble_eq_true rfl, Nat.le_of_ble_eq_true rfl⟩ (Nat.le_of_ble_eq_true rfl) (Nat.le_of_ble_eq_true rfl) (Nat.le_of_ble_eq_true rfl) (Nat.le_of_ble_eq_true rfl) (Nat.le_of_ble_eq_true rfl) (fun _ h => ⟨(), h, rfl, rfl⟩) (fun u h => ?_)
  refine J_wq (show _ = oW G o R a S ec ep from rfl) ?_
  have hb := hI.1.2
  have hf6 := hI.2.2.1.2
  refine J_aload_n hC dX10_forecastsFor_5 0 rfl rfl ?_
  refine J_get (v := .ref (a 0)) hC wu_X10 rfl dX10_forecastsFor_6 0 2 (by decide) wf_X10_22 rfl rfl ?_
  refine J_get (v := .ref (a 14)) hC wu_X8 rfl dX10_forecastsFor_9 1 3 (by decide) wf_X10_149 rfl rfl ?_
  refine J_iload_n hC dX10_forecastsFor_12 1 rfl rfl ?_
  refine J_callVi hC dX10_forecastsFor_13 wl_X10_153 yi_X0_countFor (cons_i (c_X0_countFor _ G a S (bcO S) v hI.1.1 (by have := hI.1.2; omega))) rfl rfl 15 0 rfl rfl ⟨Nat.le_of_ble_eq_true rfl, Nat.le_of_ble_eq_true rfl⟩ (Nat.le_of_ble_eq_true rfl) (Nat.le_of_ble_eq_true rfl) (Nat.le_of_ble_eq_true rfl) (fun r u9 h9 => ?_)
  refine J_wq (show _ = oW G o R a S ec ep from rfl) ?_
  exact J_iretT hC hR dX10_forecastsFor_16 rfl () ⟨h, h9⟩ rfl (Nat.le_of_ble_eq_true rfl) (Nat.le_of_ble_eq_true rfl)

set_option maxRecDepth 100000 in
set_option maxHeartbeats 4000000 in
theorem c_X10_printRefusal (l : Launch) (G : gT) (o : Nat) (R a : Nat → Nat) (S : CT) (ec ep : Int32) (v d : Int32) (hI : CI S) (hst : l.stackTraces = false) : TI l yX10_printRefusal cX10_printRefusal 3 (some .int) { frames := 7, cells := 1, slots := 6, locals := 110 } [.ref o, .int v, .int d] G (oW G o R a S ec ep) (fun r (_ : Unit) => (¬ v < 0 ∧ v < nI (vcO S)) ∧ r = s_refusal S v d (bcO S)) (fun _ => oW G o R a S ec ep) (fun (_ : Unit) => ¬ (¬ v < 0 ∧ v < nI (vcO S))) (fun _ => eIOOB) (fun _ => oW G o R a S ec ep) := by
  refine jt_i (own := RX10) hst (by decide) rfl (Nat.le_of_ble_eq_true rfl) (fun x hl hC hR hN => ?_)
  subst hl
  refine J_aload_n hC dX10_printRefusal_0 0 rfl rfl ?_
  refine J_iload_n hC dX10_printRefusal_1 1 rfl rfl ?_
  refine J_callTv hC hR.2 dX10_printRefusal_2 wl_X10_139 yi_X10_requireVillage (c_X10_requireVillage _ G o R a S ec ep v hI hst) rfl rfl 0 10 rfl rfl ⟨Nat.le_of_ble_eq_true rfl, Nat.le_of_ble_eq_true rfl⟩ (Nat.le_of_ble_eq_true rfl) (Nat.le_of_ble_eq_true rfl) (Nat.le_of_ble_eq_true rfl) (Nat.le_of_ble_eq_true rfl) (Nat.le_of_ble_eq_true rfl) (fun _ h => ⟨(), h, rfl, rfl⟩) (fun u h => ?_)
  refine J_wq (show _ = oW G o R a S ec ep from rfl) ?_
  have hb := hI.1.2
  have hf6 := hI.2.2.1.2
  refine J_aload_n hC dX10_printRefusal_5 0 rfl rfl ?_
  refine J_get (v := .ref (a 0)) hC wu_X10 rfl dX10_printRefusal_6 0 2 (by decide) wf_X10_22 rfl rfl ?_
  refine J_iload_n hC dX10_printRefusal_9 1 rfl rfl ?_
  refine J_iload_n hC dX10_printRefusal_10 2 rfl rfl ?_
  refine J_callVi hC dX10_printRefusal_11 wl_X10_223 yi_X8_refusalToPrint (cons_i (c_X8_refusalToPrint _ G a S (bcO S) v d hI.1.1 (by have := hI.1.2; omega))) rfl rfl 1 8 rfl rfl ⟨Nat.le_of_ble_eq_true rfl, Nat.le_of_ble_eq_true rfl⟩ (Nat.le_of_ble_eq_true rfl) (Nat.le_of_ble_eq_true rfl) (Nat.le_of_ble_eq_true rfl) (fun r u9 h9 => ?_)
  refine J_wq (show _ = oW G o R a S ec ep from rfl) ?_
  exact J_iretT hC hR dX10_printRefusal_14 rfl () ⟨h, h9⟩ rfl (Nat.le_of_ble_eq_true rfl) (Nat.le_of_ble_eq_true rfl)

set_option maxRecDepth 100000 in
set_option maxHeartbeats 4000000 in
theorem c_X10_refundOf (l : Launch) (G : gT) (o : Nat) (R a : Nat → Nat) (S : CT) (ec ep : Int32) (v : Int32) (hI : CI S) (hst : l.stackTraces = false) : TI l yX10_refundOf cX10_refundOf 2 (some .int) { frames := 7, cells := 1, slots := 6, locals := 110 } [.ref o, .int v] G (oW G o R a S ec ep) (fun r (w : Nat) => 4 * w < bcO S ∧ v = nI w ∧ r = s_paidForPage S w (bcO S)) (fun _ => oW G o R a S ec ep) (fun (_ : Unit) => ¬ (¬ v < 0 ∧ v < nI ((bcO S + 4 - 1) / 4))) (fun _ => eNSE) (fun _ => oW G o R a S ec ep) := by
  refine jt_i (own := RX10) hst (by decide) rfl (Nat.le_of_ble_eq_true rfl) (fun x hl hC hR hN => ?_)
  subst hl
  refine J_aload_n hC dX10_refundOf_0 0 rfl rfl ?_
  refine J_iload_n hC dX10_refundOf_1 1 rfl rfl ?_
  refine J_callTv hC hR.2 dX10_refundOf_2 wl_X10_214 yi_X10_requirePage (c_X10_requirePage _ G o R a S ec ep v hI hst) rfl rfl 0 10 rfl rfl ⟨Nat.le_of_ble_eq_true rfl, Nat.le_of_ble_eq_true rfl⟩ (Nat.le_of_ble_eq_true rfl) (Nat.le_of_ble_eq_true rfl) (Nat.le_of_ble_eq_true rfl) (Nat.le_of_ble_eq_true rfl) (Nat.le_of_ble_eq_true rfl) (fun _ h => ⟨(), h, rfl, rfl⟩) (fun u h => ?_)
  refine J_wq (show _ = oW G o R a S ec ep from rfl) ?_
  have hb := hI.1.2
  have hf6 := hI.2.2.1.2
  refine J_aload_n hC dX10_refundOf_5 0 rfl rfl ?_
  refine J_get (v := .ref (a 0)) hC wu_X10 rfl dX10_refundOf_6 0 2 (by decide) wf_X10_22 rfl rfl ?_
  obtain ⟨w, hw, hv⟩ := has_nat h (by omega)
  subst hv
  refine J_get (v := .ref (a 14)) hC wu_X8 rfl dX10_refundOf_9 1 3 (by decide) wf_X10_149 rfl rfl ?_
  refine J_iload_n hC dX10_refundOf_12 1 rfl rfl ?_
  refine J_callVi hC dX10_refundOf_13 wl_X10_217 yi_X0_paidForPage (cons_i (c_X0_paidForPage _ G a S (bcO S) w hI.1.1 (by have := hI.1.2; omega) (by omega))) rfl rfl 15 0 rfl rfl ⟨Nat.le_of_ble_eq_true rfl, Nat.le_of_ble_eq_true rfl⟩ (Nat.le_of_ble_eq_true rfl) (Nat.le_of_ble_eq_true rfl) (Nat.le_of_ble_eq_true rfl) (fun r u9 h9 => ?_)
  refine J_wq (show _ = oW G o R a S ec ep from rfl) ?_
  exact J_iretT hC hR dX10_refundOf_16 rfl w ⟨by omega, rfl, h9⟩ rfl (Nat.le_of_ble_eq_true rfl) (Nat.le_of_ble_eq_true rfl)

set_option maxRecDepth 100000 in
set_option maxHeartbeats 4000000 in
theorem c_X10_canRetract (l : Launch) (G : gT) (o : Nat) (R a : Nat → Nat) (S : CT) (ec ep : Int32) (v : Int32) (hI : CI S) (hst : l.stackTraces = false) : TI l yX10_canRetract cX10_canRetract 2 (some .boolean) { frames := 7, cells := 1, slots := 6, locals := 110 } [.ref o, .int v] G (oW G o R a S ec ep) (fun r (w : Nat) => 4 * w < bcO S ∧ v = nI w ∧ ((r = 1 ∧ s_canPay S w (bcO S)) ∨ (r = 0 ∧ ¬ s_canPay S w (bcO S)))) (fun _ => oW G o R a S ec ep) (fun (_ : Unit) => ¬ (¬ v < 0 ∧ v < nI ((bcO S + 4 - 1) / 4))) (fun _ => eNSE) (fun _ => oW G o R a S ec ep) := by
  refine jt_i (own := RX10) hst (by decide) rfl (Nat.le_of_ble_eq_true rfl) (fun x hl hC hR hN => ?_)
  subst hl
  refine J_aload_n hC dX10_canRetract_0 0 rfl rfl ?_
  refine J_iload_n hC dX10_canRetract_1 1 rfl rfl ?_
  refine J_callTv hC hR.2 dX10_canRetract_2 wl_X10_214 yi_X10_requirePage (c_X10_requirePage _ G o R a S ec ep v hI hst) rfl rfl 0 10 rfl rfl ⟨Nat.le_of_ble_eq_true rfl, Nat.le_of_ble_eq_true rfl⟩ (Nat.le_of_ble_eq_true rfl) (Nat.le_of_ble_eq_true rfl) (Nat.le_of_ble_eq_true rfl) (Nat.le_of_ble_eq_true rfl) (Nat.le_of_ble_eq_true rfl) (fun _ h => ⟨(), h, rfl, rfl⟩) (fun u h => ?_)
  refine J_wq (show _ = oW G o R a S ec ep from rfl) ?_
  have hb := hI.1.2
  have hf6 := hI.2.2.1.2
  refine J_aload_n hC dX10_canRetract_5 0 rfl rfl ?_
  refine J_get (v := .ref (a 0)) hC wu_X10 rfl dX10_canRetract_6 0 2 (by decide) wf_X10_22 rfl rfl ?_
  obtain ⟨w, hw, hv⟩ := has_nat h (by omega)
  subst hv
  refine J_iload_n hC dX10_canRetract_9 1 rfl rfl ?_
  refine J_callVi hC dX10_canRetract_10 wl_X10_220 yi_X8_canPayBackPage (cons_i (c_X8_canPayBackPage _ G a S (bcO S) w hI.1.1 (by have := hI.1.2; omega) (by omega))) rfl rfl 1 8 rfl rfl ⟨Nat.le_of_ble_eq_true rfl, Nat.le_of_ble_eq_true rfl⟩ (Nat.le_of_ble_eq_true rfl) (Nat.le_of_ble_eq_true rfl) (Nat.le_of_ble_eq_true rfl) (fun r u9 h9 => ?_)
  refine J_wq (show _ = oW G o R a S ec ep from rfl) ?_
  have hn1 : narrow .boolean (.int r) = .int r := by rcases h9 with ⟨e, -⟩ | ⟨e, -⟩ <;> rw [e] <;> rfl
  exact J_iretT hC hR dX10_canRetract_13 hn1 w ⟨by omega, rfl, h9⟩ rfl (Nat.le_of_ble_eq_true rfl) (Nat.le_of_ble_eq_true rfl)

set_option maxRecDepth 100000 in
set_option maxHeartbeats 4000000 in
theorem c_X10_daysUntilFair (l : Launch) (G : gT) (o : Nat) (R a : Nat → Nat) (S : CT) (ec ep : Int32) (v : Int32) (hI : CI S) (hst : l.stackTraces = false) : TI l yX10_daysUntilFair cX10_daysUntilFair 2 (some .int) { frames := 7, cells := 1, slots := 6, locals := 110 } [.ref o, .int v] G (oW G o R a S ec ep) (fun r (w : Nat) => w < fcO S ∧ v = nI w ∧ r = s_daysUntil S w (S 16 0)) (fun _ => oW G o R a S ec ep) (fun (_ : Unit) => ¬ (¬ v < 0 ∧ v < nI (fcO S))) (fun _ => eIOOB) (fun _ => oW G o R a S ec ep) := by
  refine jt_i (own := RX10) hst (by decide) rfl (Nat.le_of_ble_eq_true rfl) (fun x hl hC hR hN => ?_)
  subst hl
  refine J_aload_n hC dX10_daysUntilFair_0 0 rfl rfl ?_
  refine J_iload_n hC dX10_daysUntilFair_1 1 rfl rfl ?_
  refine J_callTv hC hR.2 dX10_daysUntilFair_2 wl_X10_158 yi_X10_requireFair (c_X10_requireFair _ G o R a S ec ep v hI hst) rfl rfl 0 10 rfl rfl ⟨Nat.le_of_ble_eq_true rfl, Nat.le_of_ble_eq_true rfl⟩ (Nat.le_of_ble_eq_true rfl) (Nat.le_of_ble_eq_true rfl) (Nat.le_of_ble_eq_true rfl) (Nat.le_of_ble_eq_true rfl) (Nat.le_of_ble_eq_true rfl) (fun _ h => ⟨(), h, rfl, rfl⟩) (fun u h => ?_)
  refine J_wq (show _ = oW G o R a S ec ep from rfl) ?_
  have hb := hI.1.2
  have hf6 := hI.2.2.1.2
  refine J_aload_n hC dX10_daysUntilFair_5 0 rfl rfl ?_
  refine J_get (v := .ref (a 0)) hC wu_X10 rfl dX10_daysUntilFair_6 0 2 (by decide) wf_X10_22 rfl rfl ?_
  obtain ⟨w, hw, hv⟩ := has_nat h (by omega)
  subst hv
  refine J_get (v := .ref (a 5)) hC wu_X8 rfl dX10_daysUntilFair_9 1 1 (by decide) wf_X10_123 rfl rfl ?_
  refine J_iload_n hC dX10_daysUntilFair_12 1 rfl rfl ?_
  refine J_aload_n hC dX10_daysUntilFair_13 0 rfl rfl ?_
  refine J_get (v := .ref (a 0)) hC wu_X10 rfl dX10_daysUntilFair_14 0 2 (by decide) wf_X10_22 rfl rfl ?_
  refine J_get (v := .int (S 16 0)) hC wu_X8 rfl dX10_daysUntilFair_17 1 5 (by decide) wf_X10_108 rfl rfl ?_
  refine J_callVi hC dX10_daysUntilFair_20 wl_X10_172 yi_X2_daysUntil (cons_i (c_X2_daysUntil _ G a S w (S 16 0) (by omega))) rfl rfl 6 2 rfl rfl ⟨Nat.le_of_ble_eq_true rfl, Nat.le_of_ble_eq_true rfl⟩ (Nat.le_of_ble_eq_true rfl) (Nat.le_of_ble_eq_true rfl) (Nat.le_of_ble_eq_true rfl) (fun r u9 h9 => ?_)
  refine J_wq (show _ = oW G o R a S ec ep from rfl) ?_
  exact J_iretT hC hR dX10_daysUntilFair_23 rfl w ⟨hw, rfl, h9⟩ rfl (Nat.le_of_ble_eq_true rfl) (Nat.le_of_ble_eq_true rfl)

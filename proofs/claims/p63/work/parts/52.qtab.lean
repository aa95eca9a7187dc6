theorem wea_nat {v : Int32} (h : ¬ v < 0 ∧ ¬ 2 < v) : ∃ w, w < 3 ∧ v = nI w := has_nat (n := 3) ⟨h.1, by
  have h2 := h.2
  rw [Int32.lt_iff_toInt_lt] at h2 ⊢
  have e2 : (2 : Int32).toInt = 2 := by decide
  have e3 : (nI 3 : Int32).toInt = 3 := by decide
  omega⟩ (by decide)

set_option maxRecDepth 100000 in
set_option maxHeartbeats 4000000 in
theorem c_X10_peopleOf (l : Launch) (G : gT) (o : Nat) (R a : Nat → Nat) (S : CT) (ec ep : Int32) (v : Int32) (hI : CI S) (hst : l.stackTraces = false) : TI l yX10_peopleOf cX10_peopleOf 2 (some .int) { frames := 7, cells := 1, slots := 6, locals := 104 } [.ref o, .int v] G (oW G o R a S ec ep) (fun r (w : Nat) => w < vcO S ∧ v = nI w ∧ r = S 1 w) (fun _ => oW G o R a S ec ep) (fun (_ : Unit) => ¬ (¬ v < 0 ∧ v < nI (vcO S))) (fun _ => eIOOB) (fun _ => oW G o R a S ec ep) := by
  refine jt_i (own := RX10) hst (by decide) rfl (Nat.le_of_ble_eq_true rfl) (fun x hl hC hR hN => ?_)
  subst hl
  refine J_aload_n hC dX10_peopleOf_0 0 rfl rfl ?_
  refine J_iload_n hC dX10_peopleOf_1 1 rfl rfl ?_

  refine J_callTv hC hR.2 dX10_peopleOf_2 wl_X10_139 yi_X10_requireVillage (c_X10_requireVillage _ G o R a S ec ep v hI hst) rfl rfl 0 10 rfl rfl ⟨Nat.le_of_ble_eq_true rfl, Nat.le_of_ble_eq_true rfl⟩ (Nat.le_of_ble_eq_true rfl) (Nat.le_of_ble_eq_true rfl) (Nat.le_of_ble_eq_true rfl) (Nat.le_of_ble_eq_true rfl) (Nat.le_of_ble_eq_true rfl) (fun _ h => ⟨(), h, rfl, rfl⟩) (fun u h => ?_)
  refine J_wq (show _ = oW G o R a S ec ep from rfl) ?_
  have hsz := hI.2.1.2
  obtain ⟨w, hw, hv⟩ := has_nat h (by omega)
  subst hv
  refine J_aload_n hC dX10_peopleOf_5 0 rfl rfl ?_
  refine J_get (v := .ref (a 0)) hC wu_X10 rfl dX10_peopleOf_6 0 2 (by decide) wf_X10_22 rfl rfl ?_
  refine J_get (v := .ref (a 1)) hC wu_X8 rfl dX10_peopleOf_9 1 0 (by decide) wf_X10_99 rfl rfl ?_
  refine J_get (v := .ref (a 3)) hC wu_X9 rfl dX10_peopleOf_12 2 1 (by decide) wf_X10_142 rfl rfl ?_
  refine J_iload_n hC dX10_peopleOf_15 1 rfl rfl ?_
  refine J_iald (v := S 1 w) hC dX10_peopleOf_16 4 rfl (by omega) (by decide) rfl ?_
  exact J_iretT hC hR dX10_peopleOf_17 rfl w ⟨hw, rfl, rfl⟩ rfl (Nat.le_of_ble_eq_true rfl) (Nat.le_of_ble_eq_true rfl)

set_option maxRecDepth 100000 in
set_option maxHeartbeats 4000000 in
theorem c_X10_trustOf (l : Launch) (G : gT) (o : Nat) (R a : Nat → Nat) (S : CT) (ec ep : Int32) (v : Int32) (hI : CI S) (hst : l.stackTraces = false) : TI l yX10_trustOf cX10_trustOf 2 (some .int) { frames := 7, cells := 1, slots := 6, locals := 104 } [.ref o, .int v] G (oW G o R a S ec ep) (fun r (w : Nat) => w < vcO S ∧ v = nI w ∧ r = S 2 w) (fun _ => oW G o R a S ec ep) (fun (_ : Unit) => ¬ (¬ v < 0 ∧ v < nI (vcO S))) (fun _ => eIOOB) (fun _ => oW G o R a S ec ep) := by
  refine jt_i (own := RX10) hst (by decide) rfl (Nat.le_of_ble_eq_true rfl) (fun x hl hC hR hN => ?_)
  subst hl
  refine J_aload_n hC dX10_trustOf_0 0 rfl rfl ?_
  refine J_iload_n hC dX10_trustOf_1 1 rfl rfl ?_

  refine J_callTv hC hR.2 dX10_trustOf_2 wl_X10_139 yi_X10_requireVillage (c_X10_requireVillage _ G o R a S ec ep v hI hst) rfl rfl 0 10 rfl rfl ⟨Nat.le_of_ble_eq_true rfl, Nat.le_of_ble_eq_true rfl⟩ (Nat.le_of_ble_eq_true rfl) (Nat.le_of_ble_eq_true rfl) (Nat.le_of_ble_eq_true rfl) (Nat.le_of_ble_eq_true rfl) (Nat.le_of_ble_eq_true rfl) (fun _ h => ⟨(), h, rfl, rfl⟩) (fun u h => ?_)
  refine J_wq (show _ = oW G o R a S ec ep from rfl) ?_
  have hsz := hI.2.1.2
  obtain ⟨w, hw, hv⟩ := has_nat h (by omega)
  subst hv
  refine J_aload_n hC dX10_trustOf_5 0 rfl rfl ?_
  refine J_get (v := .ref (a 0)) hC wu_X10 rfl dX10_trustOf_6 0 2 (by decide) wf_X10_22 rfl rfl ?_
  refine J_get (v := .ref (a 1)) hC wu_X8 rfl dX10_trustOf_9 1 0 (by decide) wf_X10_99 rfl rfl ?_
  refine J_get (v := .ref (a 4)) hC wu_X9 rfl dX10_trustOf_12 2 2 (by decide) wf_X10_146 rfl rfl ?_
  refine J_iload_n hC dX10_trustOf_15 1 rfl rfl ?_
  refine J_iald (v := S 2 w) hC dX10_trustOf_16 5 rfl (by omega) (by decide) rfl ?_
  exact J_iretT hC hR dX10_trustOf_17 rfl w ⟨hw, rfl, rfl⟩ rfl (Nat.le_of_ble_eq_true rfl) (Nat.le_of_ble_eq_true rfl)

set_option maxRecDepth 100000 in
set_option maxHeartbeats 4000000 in
theorem c_X10_oddsOf (l : Launch) (G : gT) (o : Nat) (R a : Nat → Nat) (S : CT) (ec ep : Int32) (v : Int32) (hI : CI S) (hst : l.stackTraces = false) : TI l yX10_oddsOf cX10_oddsOf 2 (some .int) { frames := 7, cells := 1, slots := 6, locals := 104 } [.ref o, .int v] G (oW G o R a S ec ep) (fun r (w : Nat) => w < 3 ∧ v = nI w ∧ r = S 8 w) (fun _ => oW G o R a S ec ep) (fun (_ : Unit) => ¬ (¬ v < 0 ∧ ¬ 2 < v)) (fun _ => eIAE) (fun _ => oW G o R a S ec ep) := by
  refine jt_i (own := RX10) hst (by decide) rfl (Nat.le_of_ble_eq_true rfl) (fun x hl hC hR hN => ?_)
  subst hl
  refine J_aload_n hC dX10_oddsOf_0 0 rfl rfl ?_
  refine J_iload_n hC dX10_oddsOf_1 1 rfl rfl ?_
  refine J_iconst (v := 0) hC dX10_oddsOf_2 rfl ?_
  refine J_iconst (v := 2) hC dX10_oddsOf_3 rfl ?_
  refine J_callTv hC hR.2 dX10_oddsOf_4 wl_X10_84 yi_X10_requireRange (c_X10_requireRange _ G o R a S ec ep v 0 2 hst) rfl rfl 0 10 rfl rfl ⟨Nat.le_of_ble_eq_true rfl, Nat.le_of_ble_eq_true rfl⟩ (Nat.le_of_ble_eq_true rfl) (Nat.le_of_ble_eq_true rfl) (Nat.le_of_ble_eq_true rfl) (Nat.le_of_ble_eq_true rfl) (Nat.le_of_ble_eq_true rfl) (fun _ h => ⟨(), h, rfl, rfl⟩) (fun u h => ?_)
  refine J_wq (show _ = oW G o R a S ec ep from rfl) ?_
  have hsz := hI
  obtain ⟨w, hw, hv⟩ := wea_nat h
  subst hv
  refine J_aload_n hC dX10_oddsOf_7 0 rfl rfl ?_
  refine J_get (v := .ref (a 0)) hC wu_X10 rfl dX10_oddsOf_8 0 2 (by decide) wf_X10_22 rfl rfl ?_
  refine J_get (v := .ref (a 11)) hC wu_X8 rfl dX10_oddsOf_11 1 2 (by decide) wf_X10_111 rfl rfl ?_
  refine J_get (v := .ref (a 12)) hC wu_X7 rfl dX10_oddsOf_14 12 0 (by decide) wf_X10_175 rfl rfl ?_
  refine J_iload_n hC dX10_oddsOf_17 1 rfl rfl ?_
  refine J_iald (v := S 8 w) hC dX10_oddsOf_18 13 rfl (by omega) (by decide) rfl ?_
  exact J_iretT hC hR dX10_oddsOf_19 rfl w ⟨hw, rfl, rfl⟩ rfl (Nat.le_of_ble_eq_true rfl) (Nat.le_of_ble_eq_true rfl)

set_option maxRecDepth 100000 in
set_option maxHeartbeats 4000000 in
theorem c_X10_drawnThisYear (l : Launch) (G : gT) (o : Nat) (R a : Nat → Nat) (S : CT) (ec ep : Int32) (v : Int32) (hI : CI S) (hst : l.stackTraces = false) : TI l yX10_drawnThisYear cX10_drawnThisYear 2 (some .int) { frames := 7, cells := 1, slots := 6, locals := 104 } [.ref o, .int v] G (oW G o R a S ec ep) (fun r (w : Nat) => w < 3 ∧ v = nI w ∧ r = S 9 w) (fun _ => oW G o R a S ec ep) (fun (_ : Unit) => ¬ (¬ v < 0 ∧ ¬ 2 < v)) (fun _ => eIAE) (fun _ => oW G o R a S ec ep) := by
  refine jt_i (own := RX10) hst (by decide) rfl (Nat.le_of_ble_eq_true rfl) (fun x hl hC hR hN => ?_)
  subst hl
  refine J_aload_n hC dX10_drawnThisYear_0 0 rfl rfl ?_
  refine J_iload_n hC dX10_drawnThisYear_1 1 rfl rfl ?_
  refine J_iconst (v := 0) hC dX10_drawnThisYear_2 rfl ?_
  refine J_iconst (v := 2) hC dX10_drawnThisYear_3 rfl ?_
  refine J_callTv hC hR.2 dX10_drawnThisYear_4 wl_X10_84 yi_X10_requireRange (c_X10_requireRange _ G o R a S ec ep v 0 2 hst) rfl rfl 0 10 rfl rfl ⟨Nat.le_of_ble_eq_true rfl, Nat.le_of_ble_eq_true rfl⟩ (Nat.le_of_ble_eq_true rfl) (Nat.le_of_ble_eq_true rfl) (Nat.le_of_ble_eq_true rfl) (Nat.le_of_ble_eq_true rfl) (Nat.le_of_ble_eq_true rfl) (fun _ h => ⟨(), h, rfl, rfl⟩) (fun u h => ?_)
  refine J_wq (show _ = oW G o R a S ec ep from rfl) ?_
  have hsz := hI
  obtain ⟨w, hw, hv⟩ := wea_nat h
  subst hv
  refine J_aload_n hC dX10_drawnThisYear_7 0 rfl rfl ?_
  refine J_get (v := .ref (a 0)) hC wu_X10 rfl dX10_drawnThisYear_8 0 2 (by decide) wf_X10_22 rfl rfl ?_
  refine J_get (v := .ref (a 11)) hC wu_X8 rfl dX10_drawnThisYear_11 1 2 (by decide) wf_X10_111 rfl rfl ?_
  refine J_get (v := .ref (a 13)) hC wu_X7 rfl dX10_drawnThisYear_14 12 1 (by decide) wf_X10_182 rfl rfl ?_
  refine J_iload_n hC dX10_drawnThisYear_17 1 rfl rfl ?_
  refine J_iald (v := S 9 w) hC dX10_drawnThisYear_18 14 rfl (by omega) (by decide) rfl ?_
  exact J_iretT hC hR dX10_drawnThisYear_19 rfl w ⟨hw, rfl, rfl⟩ rfl (Nat.le_of_ble_eq_true rfl) (Nat.le_of_ble_eq_true rfl)


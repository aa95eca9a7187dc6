set_option maxRecDepth 100000 in
set_option maxHeartbeats 4000000 in
theorem c_X10_requireForecast (l : Launch) (G : gT) (o : Nat) (R a : Nat → Nat) (S : CT) (ec ep : Int32) (v d : Int32) (hI : CI S) (hst : l.stackTraces = false) : TI l yX10_requireForecast cX10_requireForecast 4 (some .int) { frames := 7, cells := 2, slots := 12, locals := 110 } [.ref o, .int v, .int d] G (oW G o R a S ec ep) (fun r (w : Nat) => (¬ v < 0 ∧ v < nI (vcO S)) ∧ w < bcO S ∧ r = nI w ∧ s_placeOf S v d (bcO S) = nI w) (fun _ => oW G o R a S ec ep) (fun (u : Nat) => (u = 0 ∧ ¬ (¬ v < 0 ∧ v < nI (vcO S))) ∨ (u = 1 ∧ (¬ v < 0 ∧ v < nI (vcO S)) ∧ s_placeOf S v d (bcO S) = -1)) (fun u => if u = 0 then eIOOB else eNSE) (fun _ => oW G o R a S ec ep) := by
  refine jt_i (own := RX10) hst (by decide) rfl (Nat.le_of_ble_eq_true rfl) (fun x hl hC hR hN => ?_)
  subst hl
  refine J_aload_n hC dX10_requireForecast_0 0 rfl rfl ?_
  refine J_iload_n hC dX10_requireForecast_1 1 rfl rfl ?_
  refine J_callTv hC hR.2 dX10_requireForecast_2 wl_X10_139 yi_X10_requireVillage (c_X10_requireVillage _ G o R a S ec ep v hI hst) rfl rfl 0 10 rfl rfl ⟨Nat.le_of_ble_eq_true rfl, Nat.le_of_ble_eq_true rfl⟩ (Nat.le_of_ble_eq_true rfl) (Nat.le_of_ble_eq_true rfl) (Nat.le_of_ble_eq_true rfl) (Nat.le_of_ble_eq_true rfl) (Nat.le_of_ble_eq_true rfl) (fun _ h => ⟨0, Or.inl ⟨rfl, h⟩, rfl, rfl⟩) (fun u h => ?_)
  refine J_wq (show _ = oW G o R a S ec ep from rfl) ?_
  refine J_aload_n hC dX10_requireForecast_5 0 rfl rfl ?_
  refine J_get (v := .ref (a 0)) hC wu_X10 rfl dX10_requireForecast_6 0 2 (by decide) wf_X10_22 rfl rfl ?_
  refine J_get (v := .ref (a 14)) hC wu_X8 rfl dX10_requireForecast_9 1 3 (by decide) wf_X10_149 rfl rfl ?_
  refine J_iload_n hC dX10_requireForecast_12 1 rfl rfl ?_
  refine J_iload_n hC dX10_requireForecast_13 2 rfl rfl ?_
  refine J_callVi hC dX10_requireForecast_14 wl_X10_186 yi_X0_placeOf (cons_i (c_X0_placeOf _ G a S (bcO S) v d hI.1.1 (by have := hI.1.2; omega))) rfl rfl 15 0 rfl rfl ⟨Nat.le_of_ble_eq_true rfl, Nat.le_of_ble_eq_true rfl⟩ (Nat.le_of_ble_eq_true rfl) (Nat.le_of_ble_eq_true rfl) (Nat.le_of_ble_eq_true rfl) (fun r u9 h9 => ?_)
  refine J_wq (show _ = oW G o R a S ec ep from rfl) ?_
  subst h9
  refine J_istore_n hC [(3, .int (s_placeOf S v d (bcO S))), (0, .ref o), (1, .int v), (2, .int d)] dX10_requireForecast_17 rfl (by decide) rfl ?_
  refine J_iload_n hC dX10_requireForecast_18 0 rfl rfl ?_
  refine J_iconst (v := -1) hC dX10_requireForecast_19 rfl ?_
  refine J_ic_ne (tgt := 31) hC dX10_requireForecast_20 (by decide) (fun c => ?_) (fun c => ?_)
  · refine J_iload_n hC dX10_requireForecast_31 0 rfl rfl ?_
    rcases placeOf_cases S v d (bcO S) with e | ⟨w, hw, e, -, -⟩
    · exact absurd e c
    · exact J_iretT hC hR dX10_requireForecast_32 rfl w ⟨h, hw, e, e⟩ rfl (Nat.le_of_ble_eq_true rfl) (Nat.le_of_ble_eq_true rfl)
  · exact J_throw0 hC hR.2 gf_NSE gf_names wk_X10_205 wi_NoSuchElementException wsL_law_x3 gt_NSE gg_NSE dX10_requireForecast_23 dX10_requireForecast_26 dX10_requireForecast_27 dX10_requireForecast_30 (by decide) (by decide) (by decide) (by decide) 1 (Or.inr ⟨rfl, h, c⟩) rfl rfl (Nat.le_of_ble_eq_true rfl) (Nat.le_of_ble_eq_true rfl)

set_option maxRecDepth 100000 in
set_option maxHeartbeats 4000000 in
theorem c_X10_weatherOf (l : Launch) (G : gT) (o : Nat) (R a : Nat → Nat) (S : CT) (ec ep : Int32) (v d : Int32) (hI : CI S) (hst : l.stackTraces = false) : TI l yX10_weatherOf cX10_weatherOf 3 (some .int) { frames := 8, cells := 2, slots := 12, locals := 134 } [.ref o, .int v, .int d] G (oW G o R a S ec ep) (fun r (w : Nat) => (¬ v < 0 ∧ v < nI (vcO S)) ∧ w < bcO S ∧ s_placeOf S v d (bcO S) = nI w ∧ r = S 12 w) (fun _ => oW G o R a S ec ep) (fun (u : Nat) => (u = 0 ∧ ¬ (¬ v < 0 ∧ v < nI (vcO S))) ∨ (u = 1 ∧ (¬ v < 0 ∧ v < nI (vcO S)) ∧ s_placeOf S v d (bcO S) = -1)) (fun u => if u = 0 then eIOOB else eNSE) (fun _ => oW G o R a S ec ep) := by
  refine jt_i (own := RX10) hst (by decide) rfl (Nat.le_of_ble_eq_true rfl) (fun x hl hC hR hN => ?_)
  subst hl
  refine J_aload_n hC dX10_weatherOf_0 0 rfl rfl ?_
  refine J_get (v := .ref (a 0)) hC wu_X10 rfl dX10_weatherOf_1 0 2 (by decide) wf_X10_22 rfl rfl ?_
  refine J_get (v := .ref (a 14)) hC wu_X8 rfl dX10_weatherOf_4 1 3 (by decide) wf_X10_149 rfl rfl ?_
  refine J_get (v := .ref (a 17)) hC wu_X0 rfl dX10_weatherOf_7 15 2 (by decide) wf_X10_189 rfl rfl ?_
  refine J_aload_n hC dX10_weatherOf_10 0 rfl rfl ?_
  refine J_iload_n hC dX10_weatherOf_11 1 rfl rfl ?_
  refine J_iload_n hC dX10_weatherOf_12 2 rfl rfl ?_
  refine J_callTi hC hR.2 dX10_weatherOf_13 wl_X10_192 yi_X10_requireForecast (c_X10_requireForecast _ G o R a S ec ep v d hI hst) rfl rfl 0 10 rfl rfl ⟨Nat.le_of_ble_eq_true rfl, Nat.le_of_ble_eq_true rfl⟩ (Nat.le_of_ble_eq_true rfl) (Nat.le_of_ble_eq_true rfl) (Nat.le_of_ble_eq_true rfl) (Nat.le_of_ble_eq_true rfl) (Nat.le_of_ble_eq_true rfl) (fun u h => ⟨u, h, rfl, rfl⟩) (fun r w h => ?_)
  refine J_wq (show _ = oW G o R a S ec ep from rfl) ?_
  obtain ⟨h1, h2, h3, h4⟩ := h
  subst h3
  have hb := hI.1.2
  refine J_iald (v := S 12 w) hC dX10_weatherOf_16 18 rfl (by omega) (by decide) rfl ?_
  exact J_iretT hC hR dX10_weatherOf_17 rfl w ⟨h1, h2, h4, rfl⟩ rfl (Nat.le_of_ble_eq_true rfl) (Nat.le_of_ble_eq_true rfl)

set_option maxRecDepth 100000 in
set_option maxHeartbeats 4000000 in
theorem c_X10_soldOf (l : Launch) (G : gT) (o : Nat) (R a : Nat → Nat) (S : CT) (ec ep : Int32) (v d : Int32) (hI : CI S) (hst : l.stackTraces = false) : TI l yX10_soldOf cX10_soldOf 3 (some .int) { frames := 8, cells := 2, slots := 12, locals := 134 } [.ref o, .int v, .int d] G (oW G o R a S ec ep) (fun r (w : Nat) => (¬ v < 0 ∧ v < nI (vcO S)) ∧ w < bcO S ∧ s_placeOf S v d (bcO S) = nI w ∧ r = S 13 w) (fun _ => oW G o R a S ec ep) (fun (u : Nat) => (u = 0 ∧ ¬ (¬ v < 0 ∧ v < nI (vcO S))) ∨ (u = 1 ∧ (¬ v < 0 ∧ v < nI (vcO S)) ∧ s_placeOf S v d (bcO S) = -1)) (fun u => if u = 0 then eIOOB else eNSE) (fun _ => oW G o R a S ec ep) := by
  refine jt_i (own := RX10) hst (by decide) rfl (Nat.le_of_ble_eq_true rfl) (fun x hl hC hR hN => ?_)
  subst hl
  refine J_aload_n hC dX10_soldOf_0 0 rfl rfl ?_
  refine J_get (v := .ref (a 0)) hC wu_X10 rfl dX10_soldOf_1 0 2 (by decide) wf_X10_22 rfl rfl ?_
  refine J_get (v := .ref (a 14)) hC wu_X8 rfl dX10_soldOf_4 1 3 (by decide) wf_X10_149 rfl rfl ?_
  refine J_get (v := .ref (a 18)) hC wu_X0 rfl dX10_soldOf_7 15 3 (by decide) wf_X10_195 rfl rfl ?_
  refine J_aload_n hC dX10_soldOf_10 0 rfl rfl ?_
  refine J_iload_n hC dX10_soldOf_11 1 rfl rfl ?_
  refine J_iload_n hC dX10_soldOf_12 2 rfl rfl ?_
  refine J_callTi hC hR.2 dX10_soldOf_13 wl_X10_192 yi_X10_requireForecast (c_X10_requireForecast _ G o R a S ec ep v d hI hst) rfl rfl 0 10 rfl rfl ⟨Nat.le_of_ble_eq_true rfl, Nat.le_of_ble_eq_true rfl⟩ (Nat.le_of_ble_eq_true rfl) (Nat.le_of_ble_eq_true rfl) (Nat.le_of_ble_eq_true rfl) (Nat.le_of_ble_eq_true rfl) (Nat.le_of_ble_eq_true rfl) (fun u h => ⟨u, h, rfl, rfl⟩) (fun r w h => ?_)
  refine J_wq (show _ = oW G o R a S ec ep from rfl) ?_
  obtain ⟨h1, h2, h3, h4⟩ := h
  subst h3
  have hb := hI.1.2
  refine J_iald (v := S 13 w) hC dX10_soldOf_16 19 rfl (by omega) (by decide) rfl ?_
  exact J_iretT hC hR dX10_soldOf_17 rfl w ⟨h1, h2, h4, rfl⟩ rfl (Nat.le_of_ble_eq_true rfl) (Nat.le_of_ble_eq_true rfl)

set_option maxRecDepth 100000 in
set_option maxHeartbeats 4000000 in
theorem c_X10_paidOf (l : Launch) (G : gT) (o : Nat) (R a : Nat → Nat) (S : CT) (ec ep : Int32) (v d : Int32) (hI : CI S) (hst : l.stackTraces = false) : TI l yX10_paidOf cX10_paidOf 3 (some .int) { frames := 8, cells := 2, slots := 12, locals := 134 } [.ref o, .int v, .int d] G (oW G o R a S ec ep) (fun r (w : Nat) => (¬ v < 0 ∧ v < nI (vcO S)) ∧ w < bcO S ∧ s_placeOf S v d (bcO S) = nI w ∧ r = S 14 w) (fun _ => oW G o R a S ec ep) (fun (u : Nat) => (u = 0 ∧ ¬ (¬ v < 0 ∧ v < nI (vcO S))) ∨ (u = 1 ∧ (¬ v < 0 ∧ v < nI (vcO S)) ∧ s_placeOf S v d (bcO S) = -1)) (fun u => if u = 0 then eIOOB else eNSE) (fun _ => oW G o R a S ec ep) := by
  refine jt_i (own := RX10) hst (by decide) rfl (Nat.le_of_ble_eq_true rfl) (fun x hl hC hR hN => ?_)
  subst hl
  refine J_aload_n hC dX10_paidOf_0 0 rfl rfl ?_
  refine J_get (v := .ref (a 0)) hC wu_X10 rfl dX10_paidOf_1 0 2 (by decide) wf_X10_22 rfl rfl ?_
  refine J_get (v := .ref (a 14)) hC wu_X8 rfl dX10_paidOf_4 1 3 (by decide) wf_X10_149 rfl rfl ?_
  refine J_get (v := .ref (a 19)) hC wu_X0 rfl dX10_paidOf_7 15 4 (by decide) wf_X10_198 rfl rfl ?_
  refine J_aload_n hC dX10_paidOf_10 0 rfl rfl ?_
  refine J_iload_n hC dX10_paidOf_11 1 rfl rfl ?_
  refine J_iload_n hC dX10_paidOf_12 2 rfl rfl ?_
  refine J_callTi hC hR.2 dX10_paidOf_13 wl_X10_192 yi_X10_requireForecast (c_X10_requireForecast _ G o R a S ec ep v d hI hst) rfl rfl 0 10 rfl rfl ⟨Nat.le_of_ble_eq_true rfl, Nat.le_of_ble_eq_true rfl⟩ (Nat.le_of_ble_eq_true rfl) (Nat.le_of_ble_eq_true rfl) (Nat.le_of_ble_eq_true rfl) (Nat.le_of_ble_eq_true rfl) (Nat.le_of_ble_eq_true rfl) (fun u h => ⟨u, h, rfl, rfl⟩) (fun r w h => ?_)
  refine J_wq (show _ = oW G o R a S ec ep from rfl) ?_
  obtain ⟨h1, h2, h3, h4⟩ := h
  subst h3
  have hb := hI.1.2
  refine J_iald (v := S 14 w) hC dX10_paidOf_16 20 rfl (by omega) (by decide) rfl ?_
  exact J_iretT hC hR dX10_paidOf_17 rfl w ⟨h1, h2, h4, rfl⟩ rfl (Nat.le_of_ble_eq_true rfl) (Nat.le_of_ble_eq_true rfl)


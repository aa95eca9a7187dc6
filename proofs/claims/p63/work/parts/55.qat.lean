theorem betw_nat {v : Int32} {n : Nat} (hn : n < 2 ^ 30) (h : ¬ v < 0 ∧ ¬ nI n - 1 < v) : ∃ w, w < n ∧ v = nI w := has_nat ⟨h.1, by
  have h1 := h.1
  have h2 := h.2
  rw [Int32.lt_iff_toInt_lt] at h1 h2 ⊢
  rw [nI_m1_toInt hn] at h2
  have e0 : (0 : Int32).toInt = 0 := by decide
  have e1 : (nI n).toInt = n := nI_toInt (by omega)
  omega⟩ (by omega)

set_option maxRecDepth 100000 in
set_option maxHeartbeats 4000000 in
theorem c_X10_regretAt (l : Launch) (G : gT) (o : Nat) (R a : Nat → Nat) (S : CT) (ec ep : Int32) (v : Int32) (hI : CI S) (hst : l.stackTraces = false) : TI l yX10_regretAt cX10_regretAt 2 (some .int) { frames := 7, cells := 1, slots := 6, locals := 110 } [.ref o, .int v] G (oW G o R a S ec ep) (fun r (w : Nat) => w < mcO S ∧ v = nI w ∧ r = S 15 w) (fun _ => oW G o R a S ec ep) (fun (_ : Unit) => ¬ (¬ v < 0 ∧ ¬ S 16 13 - 1 < v)) (fun _ => eIOOB) (fun _ => oW G o R a S ec ep) := by
  refine jt_i (own := RX10) hst (by decide) rfl (Nat.le_of_ble_eq_true rfl) (fun x hl hC hR hN => ?_)
  subst hl
  refine J_iload_n hC dX10_regretAt_0 1 rfl rfl ?_
  refine J_iconst (v := 0) hC dX10_regretAt_1 rfl ?_
  refine J_aload_n hC dX10_regretAt_2 0 rfl rfl ?_
  refine J_get (v := .ref (a 0)) hC wu_X10 rfl dX10_regretAt_3 0 2 (by decide) wf_X10_22 rfl rfl ?_
  refine J_get (v := .ref (a 20)) hC wu_X8 rfl dX10_regretAt_6 1 4 (by decide) wf_X10_236 rfl rfl ?_
  refine J_get (v := .int (S 16 13)) hC wu_X4 rfl dX10_regretAt_9 21 1 (by decide) wf_X10_240 rfl rfl ?_
  refine J_iconst (v := 1) hC dX10_regretAt_12 rfl ?_
  refine J_isub hC dX10_regretAt_13 rfl ?_
  refine J_callSi hC dX10_regretAt_14 wl_X10_201 wi_X10 yi_X10_isBetween (c_X10_isBetween _ G (oW G o R a S ec ep) v 0 (S 16 13 - 1)) rfl rfl ⟨Nat.le_of_ble_eq_true rfl, Nat.le_of_ble_eq_true rfl⟩ (Nat.le_of_ble_eq_true rfl) (Nat.le_of_ble_eq_true rfl) (Nat.le_of_ble_eq_true rfl) (fun r u h => ?_)
  refine J_wq (show _ = oW G o R a S ec ep from rfl) ?_
  rcases h with ⟨rfl, c⟩ | ⟨rfl, c⟩
  · refine J_if_ne (tgt := 28) hC dX10_regretAt_17 (by decide) (fun _ => ?_) (fun c9 => absurd c9 (by decide))
    have hb := hI.2.2.2.2
    have c' := c
    rw [hI.2.2.2.1] at c'
    obtain ⟨w, hw, hv⟩ := betw_nat (by omega) c'
    refine J_aload_n hC dX10_regretAt_28 0 rfl rfl ?_
    refine J_get (v := .ref (a 0)) hC wu_X10 rfl dX10_regretAt_29 0 2 (by decide) wf_X10_22 rfl rfl ?_
    refine J_get (v := .ref (a 20)) hC wu_X8 rfl dX10_regretAt_32 1 4 (by decide) wf_X10_236 rfl rfl ?_
    refine J_get (v := .ref (a 21)) hC wu_X4 rfl dX10_regretAt_35 21 0 (by decide) wf_X10_246 rfl rfl ?_
    subst hv
    refine J_iload_n hC dX10_regretAt_38 1 rfl rfl ?_
    refine J_iald (v := S 15 w) hC dX10_regretAt_39 22 rfl (by omega) (by decide) rfl ?_
    exact J_iretT hC hR dX10_regretAt_40 rfl w ⟨hw, rfl, rfl⟩ rfl (Nat.le_of_ble_eq_true rfl) (Nat.le_of_ble_eq_true rfl)
  · refine J_if_ne (tgt := 28) hC dX10_regretAt_17 (by decide) (fun c9 => absurd rfl c9) (fun _ => ?_)
    exact J_throw0 hC hR.2 gf_IOOB gf_names wk_X10_243 wi_IndexOutOfBoundsException wsL_law_x2 gt_IOOB gg_IOOB dX10_regretAt_20 dX10_regretAt_23 dX10_regretAt_24 dX10_regretAt_27 (by decide) (by decide) (by decide) (by decide) () c rfl rfl (Nat.le_of_ble_eq_true rfl) (Nat.le_of_ble_eq_true rfl)

set_option maxRecDepth 100000 in
set_option maxHeartbeats 4000000 in
theorem c_X10_forecastAt (l : Launch) (G : gT) (o : Nat) (R a : Nat → Nat) (S : CT) (ec ep : Int32) (v : Int32) (hI : CI S) (hst : l.stackTraces = false) : TI l yX10_forecastAt cX10_forecastAt 2 (some .int) { frames := 7, cells := 1, slots := 6, locals := 110 } [.ref o, .int v] G (oW G o R a S ec ep) (fun r (w : Nat) => w < bcO S ∧ v = nI w ∧ r = s_label (S 10 w) (S 11 w)) (fun _ => oW G o R a S ec ep) (fun (_ : Unit) => ¬ (¬ v < 0 ∧ ¬ S 16 12 - 1 < v)) (fun _ => eNSE) (fun _ => oW G o R a S ec ep) := by
  refine jt_i (own := RX10) hst (by decide) rfl (Nat.le_of_ble_eq_true rfl) (fun x hl hC hR hN => ?_)
  subst hl
  refine J_iload_n hC dX10_forecastAt_0 1 rfl rfl ?_
  refine J_iconst (v := 0) hC dX10_forecastAt_1 rfl ?_
  refine J_aload_n hC dX10_forecastAt_2 0 rfl rfl ?_
  refine J_get (v := .ref (a 0)) hC wu_X10 rfl dX10_forecastAt_3 0 2 (by decide) wf_X10_22 rfl rfl ?_
  refine J_get (v := .ref (a 14)) hC wu_X8 rfl dX10_forecastAt_6 1 3 (by decide) wf_X10_149 rfl rfl ?_
  refine J_get (v := .int (S 16 12)) hC wu_X0 rfl dX10_forecastAt_9 15 5 (by decide) wf_X10_185 rfl rfl ?_
  refine J_iconst (v := 1) hC dX10_forecastAt_12 rfl ?_
  refine J_isub hC dX10_forecastAt_13 rfl ?_
  refine J_callSi hC dX10_forecastAt_14 wl_X10_201 wi_X10 yi_X10_isBetween (c_X10_isBetween _ G (oW G o R a S ec ep) v 0 (S 16 12 - 1)) rfl rfl ⟨Nat.le_of_ble_eq_true rfl, Nat.le_of_ble_eq_true rfl⟩ (Nat.le_of_ble_eq_true rfl) (Nat.le_of_ble_eq_true rfl) (Nat.le_of_ble_eq_true rfl) (fun r u h => ?_)
  refine J_wq (show _ = oW G o R a S ec ep from rfl) ?_
  rcases h with ⟨rfl, c⟩ | ⟨rfl, c⟩
  · refine J_if_ne (tgt := 28) hC dX10_forecastAt_17 (by decide) (fun _ => ?_) (fun c9 => absurd c9 (by decide))
    have hb := hI.1.2
    have c' := c
    rw [hI.1.1] at c'
    obtain ⟨w, hw, hv⟩ := betw_nat (by omega) c'
    refine J_aload_n hC dX10_forecastAt_28 0 rfl rfl ?_
    refine J_get (v := .ref (a 0)) hC wu_X10 rfl dX10_forecastAt_29 0 2 (by decide) wf_X10_22 rfl rfl ?_
    refine J_get (v := .ref (a 14)) hC wu_X8 rfl dX10_forecastAt_32 1 3 (by decide) wf_X10_149 rfl rfl ?_
    subst hv
    refine J_iload_n hC dX10_forecastAt_35 1 rfl rfl ?_
    refine J_callVi hC dX10_forecastAt_36 wl_X10_208 yi_X0_labelAt (cons_i (c_X0_labelAt _ G a S w (by omega))) rfl rfl 15 0 rfl rfl ⟨Nat.le_of_ble_eq_true rfl, Nat.le_of_ble_eq_true rfl⟩ (Nat.le_of_ble_eq_true rfl) (Nat.le_of_ble_eq_true rfl) (Nat.le_of_ble_eq_true rfl) (fun r u9 h9 => ?_)
    refine J_wq (show _ = oW G o R a S ec ep from rfl) ?_
    exact J_iretT hC hR dX10_forecastAt_39 rfl w ⟨hw, rfl, h9⟩ rfl (Nat.le_of_ble_eq_true rfl) (Nat.le_of_ble_eq_true rfl)
  · refine J_if_ne (tgt := 28) hC dX10_forecastAt_17 (by decide) (fun c9 => absurd rfl c9) (fun _ => ?_)
    exact J_throw0 hC hR.2 gf_NSE gf_names wk_X10_205 wi_NoSuchElementException wsL_law_x3 gt_NSE gg_NSE dX10_forecastAt_20 dX10_forecastAt_23 dX10_forecastAt_24 dX10_forecastAt_27 (by decide) (by decide) (by decide) (by decide) () c rfl rfl (Nat.le_of_ble_eq_true rfl) (Nat.le_of_ble_eq_true rfl)


abbrev eIOOB : String := "java/lang/IndexOutOfBoundsException"
theorem gt_IOOB : ∀ w ∈ (vx_at0 RX10 245 "java/lang/IndexOutOfBoundsException" ["java/lang/RuntimeException", "java/lang/Exception"]).filter (fun w => !goodWord w), w ∈ TWL := by decide +kernel
theorem gg_IOOB : ∀ w ∈ Cond.classLink RX10 243 "java/lang/IndexOutOfBoundsException" :: Cond.initialized "java/lang/IndexOutOfBoundsException" :: vx_at0 RX10 245 "java/lang/IndexOutOfBoundsException" ["java/lang/RuntimeException", "java/lang/Exception"], vx_ot w = true := by decide +kernel
theorem gf_IOOB : Bundle.fit "java/lang/IndexOutOfBoundsException" = true := by decide +kernel

abbrev eIAE : String := "java/lang/IllegalArgumentException"
theorem gt_IAE : ∀ w ∈ (vx_at0 RX10 95 "java/lang/IllegalArgumentException" ["java/lang/RuntimeException", "java/lang/Exception"]).filter (fun w => !goodWord w), w ∈ TWL := by decide +kernel
theorem gg_IAE : ∀ w ∈ Cond.classLink RX10 93 "java/lang/IllegalArgumentException" :: Cond.initialized "java/lang/IllegalArgumentException" :: vx_at0 RX10 95 "java/lang/IllegalArgumentException" ["java/lang/RuntimeException", "java/lang/Exception"], vx_ot w = true := by decide +kernel
theorem gf_IAE : Bundle.fit "java/lang/IllegalArgumentException" = true := by decide +kernel

abbrev eISE : String := "java/lang/IllegalStateException"
theorem gt_ISE : ∀ w ∈ (vx_at0 RX10 76 "java/lang/IllegalStateException" ["java/lang/RuntimeException", "java/lang/Exception"]).filter (fun w => !goodWord w), w ∈ TWL := by decide +kernel
theorem gg_ISE : ∀ w ∈ Cond.classLink RX10 74 "java/lang/IllegalStateException" :: Cond.initialized "java/lang/IllegalStateException" :: vx_at0 RX10 76 "java/lang/IllegalStateException" ["java/lang/RuntimeException", "java/lang/Exception"], vx_ot w = true := by decide +kernel
theorem gf_ISE : Bundle.fit "java/lang/IllegalStateException" = true := by decide +kernel

abbrev eNSE : String := "java/util/NoSuchElementException"
theorem gt_NSE : ∀ w ∈ (vx_at0 RX10 207 "java/util/NoSuchElementException" ["java/lang/RuntimeException", "java/lang/Exception"]).filter (fun w => !goodWord w), w ∈ TWL := by decide +kernel
theorem gg_NSE : ∀ w ∈ Cond.classLink RX10 205 "java/util/NoSuchElementException" :: Cond.initialized "java/util/NoSuchElementException" :: vx_at0 RX10 207 "java/util/NoSuchElementException" ["java/lang/RuntimeException", "java/lang/Exception"], vx_ot w = true := by decide +kernel
theorem gf_NSE : Bundle.fit "java/util/NoSuchElementException" = true := by decide +kernel

theorem gf_names : ∀ n ∈ ["java/lang/RuntimeException", "java/lang/Exception"], Bundle.fit n = true := by decide +kernel

set_option maxRecDepth 100000 in
set_option maxHeartbeats 4000000 in
theorem c_X10_requireVillage (l : Launch) (G : gT) (o : Nat) (R a : Nat → Nat) (S : CT) (ec ep : Int32) (v : Int32) (hI : CI S) (hst : l.stackTraces = false) : TV l yX10_requireVillage cX10_requireVillage 2 { frames := 6, cells := 1, slots := 6, locals := 81 } [.ref o, .int v] G (oW G o R a S ec ep) (fun (_ : Unit) => ¬ v < 0 ∧ v < nI (vcO S)) (fun _ => oW G o R a S ec ep) (fun (_ : Unit) => ¬ (¬ v < 0 ∧ v < nI (vcO S))) (fun _ => eIOOB) (fun _ => oW G o R a S ec ep) := by
  refine jt_v (own := RX10) hst (by decide) rfl (Nat.le_of_ble_eq_true rfl) (fun x hl hC hR hN => ?_)
  subst hl
  refine J_aload_n hC dX10_requireVillage_0 0 rfl rfl ?_
  refine J_get (v := .ref (a 0)) hC wu_X10 rfl dX10_requireVillage_1 0 2 (by decide) wf_X10_22 rfl rfl ?_
  refine J_get (v := .ref (a 1)) hC wu_X8 rfl dX10_requireVillage_4 1 0 (by decide) wf_X10_99 rfl rfl ?_
  refine J_iload_n hC dX10_requireVillage_7 1 rfl rfl ?_
  refine J_callVi hC dX10_requireVillage_8 wl_X10_319 yi_X9_has (cons_i (c_X9_has _ G a S (vcO S) v hI.2.1.1 (by have := hI.2.1.2; omega))) rfl rfl 2 9 rfl rfl ⟨Nat.le_of_ble_eq_true rfl, Nat.le_of_ble_eq_true rfl⟩ (Nat.le_of_ble_eq_true rfl) (Nat.le_of_ble_eq_true rfl) (Nat.le_of_ble_eq_true rfl) (fun r u h => ?_)
  refine J_wq (show _ = oW G o R a S ec ep from rfl) ?_
  rcases h with ⟨rfl, c⟩ | ⟨rfl, c⟩
  · refine J_if_ne (tgt := 22) hC dX10_requireVillage_11 (by decide) (fun _ => ?_) (fun c9 => absurd c9 (by decide))
    exact J_vretT hC hR dX10_requireVillage_22 () c rfl (Nat.le_of_ble_eq_true rfl) (Nat.le_of_ble_eq_true rfl)
  · refine J_if_ne (tgt := 22) hC dX10_requireVillage_11 (by decide) (fun c9 => absurd rfl c9) (fun _ => ?_)
    exact J_throw0 hC hR.2 gf_IOOB gf_names wk_X10_243 wi_IndexOutOfBoundsException wsL_law_x2 gt_IOOB gg_IOOB dX10_requireVillage_14 dX10_requireVillage_17 dX10_requireVillage_18 dX10_requireVillage_21 (by decide) (by decide) (by decide) (by decide) () c rfl rfl (Nat.le_of_ble_eq_true rfl) (Nat.le_of_ble_eq_true rfl)

set_option maxRecDepth 100000 in
set_option maxHeartbeats 4000000 in
theorem c_X10_requirePage (l : Launch) (G : gT) (o : Nat) (R a : Nat → Nat) (S : CT) (ec ep : Int32) (v : Int32) (hI : CI S) (hst : l.stackTraces = false) : TV l yX10_requirePage cX10_requirePage 2 { frames := 6, cells := 1, slots := 6, locals := 81 } [.ref o, .int v] G (oW G o R a S ec ep) (fun (_ : Unit) => ¬ v < 0 ∧ v < nI ((bcO S + 4 - 1) / 4)) (fun _ => oW G o R a S ec ep) (fun (_ : Unit) => ¬ (¬ v < 0 ∧ v < nI ((bcO S + 4 - 1) / 4))) (fun _ => eNSE) (fun _ => oW G o R a S ec ep) := by
  refine jt_v (own := RX10) hst (by decide) rfl (Nat.le_of_ble_eq_true rfl) (fun x hl hC hR hN => ?_)
  subst hl
  refine J_aload_n hC dX10_requirePage_0 0 rfl rfl ?_
  refine J_get (v := .ref (a 0)) hC wu_X10 rfl dX10_requirePage_1 0 2 (by decide) wf_X10_22 rfl rfl ?_
  refine J_get (v := .ref (a 14)) hC wu_X8 rfl dX10_requirePage_4 1 3 (by decide) wf_X10_149 rfl rfl ?_
  refine J_iload_n hC dX10_requirePage_7 1 rfl rfl ?_
  refine J_callVi hC dX10_requirePage_8 wl_X10_323 yi_X0_hasPage (cons_i (c_X0_hasPage _ G a S (bcO S) v hI.1.1 (by have := hI.1.2; omega))) rfl rfl 15 0 rfl rfl ⟨Nat.le_of_ble_eq_true rfl, Nat.le_of_ble_eq_true rfl⟩ (Nat.le_of_ble_eq_true rfl) (Nat.le_of_ble_eq_true rfl) (Nat.le_of_ble_eq_true rfl) (fun r u h => ?_)
  refine J_wq (show _ = oW G o R a S ec ep from rfl) ?_
  rcases h with ⟨rfl, c⟩ | ⟨rfl, c⟩
  · refine J_if_ne (tgt := 22) hC dX10_requirePage_11 (by decide) (fun _ => ?_) (fun c9 => absurd c9 (by decide))
    exact J_vretT hC hR dX10_requirePage_22 () c rfl (Nat.le_of_ble_eq_true rfl) (Nat.le_of_ble_eq_true rfl)
  · refine J_if_ne (tgt := 22) hC dX10_requirePage_11 (by decide) (fun c9 => absurd rfl c9) (fun _ => ?_)
    exact J_throw0 hC hR.2 gf_NSE gf_names wk_X10_205 wi_NoSuchElementException wsL_law_x3 gt_NSE gg_NSE dX10_requirePage_14 dX10_requirePage_17 dX10_requirePage_18 dX10_requirePage_21 (by decide) (by decide) (by decide) (by decide) () c rfl rfl (Nat.le_of_ble_eq_true rfl) (Nat.le_of_ble_eq_true rfl)

set_option maxRecDepth 100000 in
set_option maxHeartbeats 4000000 in
theorem c_X10_requireRange (l : Launch) (G : gT) (o : Nat) (R a : Nat → Nat) (S : CT) (ec ep : Int32) (v lo hi : Int32) (hst : l.stackTraces = false) : TV l yX10_requireRange cX10_requireRange 4 { frames := 6, cells := 1, slots := 6, locals := 81 } [.ref o, .int v, .int lo, .int hi] G (oW G o R a S ec ep) (fun (_ : Unit) => ¬ v < lo ∧ ¬ hi < v) (fun _ => oW G o R a S ec ep) (fun (_ : Unit) => ¬ (¬ v < lo ∧ ¬ hi < v)) (fun _ => eIAE) (fun _ => oW G o R a S ec ep) := by
  refine jt_v (own := RX10) hst (by decide) rfl (Nat.le_of_ble_eq_true rfl) (fun x hl hC hR hN => ?_)
  subst hl
  refine J_iload_n hC dX10_requireRange_0 1 rfl rfl ?_
  refine J_iload_n hC dX10_requireRange_1 2 rfl rfl ?_
  refine J_iload_n hC dX10_requireRange_2 3 rfl rfl ?_
  refine J_callSi hC dX10_requireRange_3 wl_X10_201 wi_X10 yi_X10_isBetween (c_X10_isBetween _ G (oW G o R a S ec ep) v lo hi) rfl rfl ⟨Nat.le_of_ble_eq_true rfl, Nat.le_of_ble_eq_true rfl⟩ (Nat.le_of_ble_eq_true rfl) (Nat.le_of_ble_eq_true rfl) (Nat.le_of_ble_eq_true rfl) (fun r u h => ?_)
  refine J_wq (show _ = oW G o R a S ec ep from rfl) ?_
  rcases h with ⟨rfl, c⟩ | ⟨rfl, c⟩
  · refine J_if_ne (tgt := 17) hC dX10_requireRange_6 (by decide) (fun _ => ?_) (fun c9 => absurd c9 (by decide))
    exact J_vretT hC hR dX10_requireRange_17 () c rfl (Nat.le_of_ble_eq_true rfl) (Nat.le_of_ble_eq_true rfl)
  · refine J_if_ne (tgt := 17) hC dX10_requireRange_6 (by decide) (fun c9 => absurd rfl c9) (fun _ => ?_)
    exact J_throw0 hC hR.2 gf_IAE gf_names wk_X10_93 wi_IllegalArgumentException wsL_law_x1 gt_IAE gg_IAE dX10_requireRange_9 dX10_requireRange_12 dX10_requireRange_13 dX10_requireRange_16 (by decide) (by decide) (by decide) (by decide) () c rfl rfl (Nat.le_of_ble_eq_true rfl) (Nat.le_of_ble_eq_true rfl)


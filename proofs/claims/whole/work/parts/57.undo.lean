set_option maxRecDepth 100000 in
set_option maxHeartbeats 4000000 in
theorem c_X10_undo (l : Launch) (G : gT) (o : Nat) (R a : Nat → Nat) (S : CT) (ec ep : Int32) (h r : Nat) (A : Nat → Nat → Nat) (n k : Nat) (T : Nat → CT) (hh : R 3 = h) (hn : n < 8) (hk : k ≤ 8) (hst : l.stackTraces = false) : TI l yX10_undo cX10_undo 1 (some .int) { frames := 6, cells := 1, slots := 6, locals := 100 } [.ref o] G (oW G o R a S ec ep ++ hiW G h r A n k T) (fun r9 (_ : Unit) => 0 < k ∧ r9 = nI (k - 1)) (fun _ => oW G o R a (T ((n + 7) % 8)) ec ep ++ hiW G h r A ((n + 7) % 8) (k - 1) T) (fun (_ : Unit) => k = 0) (fun _ => eISE) (fun _ => oW G o R a S ec ep ++ hiW G h r A n k T) := by
  refine jt_i (own := RX10) hst (by decide) rfl (Nat.le_of_ble_eq_true rfl) (fun x hl hC hR hN => ?_)
  subst hl
  refine J_aload_n hC dX10_undo_0 0 rfl rfl ?_
  refine J_get (v := .ref h) hC wu_X10 rfl dX10_undo_1 0 4 (by decide) wf_X10_32 rfl (by rw [← hh]; rfl) ?_
  refine J_get (v := .int (nI k)) hC wu_X3 rfl dX10_undo_4 23 2 (by decide) wf_X10_315 rfl rfl ?_
  refine J_if_neN (tgt := 18) hC dX10_undo_7 (by decide) (by omega) (fun c => ?_) (fun c => ?_)
  · have hk0 : ¬ k = 0 := by omega
    have hM := c_X3_bringBack (jl x) G h r A n k T a S hn hk
    simp only [if_neg hk0] at hM
    refine J_aload_n hC dX10_undo_18 0 rfl rfl ?_
    refine J_get (v := .ref h) hC wu_X10 rfl dX10_undo_19 0 4 (by decide) wf_X10_32 rfl (by rw [← hh]; rfl) ?_
    refine J_aload_n hC dX10_undo_22 0 rfl rfl ?_
    refine J_get (v := .ref (a 0)) hC wu_X10 rfl dX10_undo_23 0 2 (by decide) wf_X10_22 rfl rfl ?_
    refine J_callVv hC dX10_undo_26 wl_X10_316 yi_X3_bringBack (fr_v hM (perm_sw _ (stW G a S) (hiW G h r A n k T)) (fun _ => (perm_sw _ (stW G a (T ((n + 7) % 8))) (hiW G h r A ((n + 7) % 8) (k - 1) T)).symm)) rfl rfl 23 3 rfl rfl ⟨Nat.le_of_ble_eq_true rfl, Nat.le_of_ble_eq_true rfl⟩ (Nat.le_of_ble_eq_true rfl) (Nat.le_of_ble_eq_true rfl) (Nat.le_of_ble_eq_true rfl) (fun u9 h9 => ?_)
    refine J_wq (show _ = oW G o R a (T ((n + 7) % 8)) ec ep ++ hiW G h r A ((n + 7) % 8) (k - 1) T from rfl) ?_
    refine J_aload_n hC dX10_undo_29 0 rfl rfl ?_
    refine J_get (v := .ref h) hC wu_X10 rfl dX10_undo_30 0 4 (by decide) wf_X10_32 rfl (by rw [← hh]; rfl) ?_
    refine J_get (v := .int (nI (k - 1))) hC wu_X3 rfl dX10_undo_33 23 2 (by decide) wf_X10_315 rfl rfl ?_
    exact J_iretT hC hR dX10_undo_36 rfl () ⟨c, rfl⟩ rfl (Nat.le_of_ble_eq_true rfl) (Nat.le_of_ble_eq_true rfl)
  · exact J_throw0 hC hR.2 gf_ISE gf_names wk_X10_74 wi_IllegalStateException wsL_law_x0 gt_ISE gg_ISE dX10_undo_10 dX10_undo_13 dX10_undo_14 dX10_undo_17 (by decide) (by decide) (by decide) (by decide) () c rfl rfl (Nat.le_of_ble_eq_true rfl) (Nat.le_of_ble_eq_true rfl)

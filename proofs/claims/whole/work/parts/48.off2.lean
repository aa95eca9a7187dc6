theorem perm_sw {α : Type} (c : α) (P Q : List α) : (c :: (P ++ Q)).Perm ((Q ++ P) ++ [c]) := (List.perm_append_comm.cons c).trans (List.perm_append_singleton c (Q ++ P)).symm
set_option maxRecDepth 100000 in
set_option maxHeartbeats 4000000 in
theorem c_X10_lookAhead (l : Launch) (G : gT) (o : Nat) (R a d : Nat → Nat) (S D : CT) (ec ep : Int32) (dn : Nat) (hI : CI S) (hd : R 2 = d 0) (hn : dn ≤ 1000) : MV l yX10_lookAhead cX10_lookAhead 2 { frames := 4, cells := 0, slots := 0, locals := 102 } [.ref o, .int (nI dn)] G (oW G o R a S ec ep ++ stW G d D) (fun (_ : Unit) => True) (fun _ => oW G o R a S ec ep ++ stW G d (s_days dn S)) := by
  refine jm_v (own := RX10) (by decide) rfl (Nat.le_of_ble_eq_true rfl) (fun x hl hC hR hN => ?_)
  subst hl
  refine J_aload_n hC dX10_lookAhead_0 0 rfl rfl ?_
  refine J_get (v := .ref (d 0)) hC wu_X10 rfl dX10_lookAhead_1 0 3 (by decide) wf_X10_26 rfl (by rw [← hd]; rfl) ?_
  refine J_aload_n hC dX10_lookAhead_4 0 rfl rfl ?_
  refine J_get (v := .ref (a 0)) hC wu_X10 rfl dX10_lookAhead_5 0 2 (by decide) wf_X10_22 rfl rfl ?_
  refine J_callVv hC dX10_lookAhead_8 wl_X10_66 yi_X8_takeFrom (fr_v (c_X8_takeFrom _ G d a D S) (perm_sw _ (stW G a S) (stW G d D)) (fun _ => (perm_sw _ (stW G a S) (stW G d S)).symm)) rfl rfl 23 8 rfl rfl ⟨Nat.le_of_ble_eq_true rfl, Nat.le_of_ble_eq_true rfl⟩ (Nat.le_of_ble_eq_true rfl) (Nat.le_of_ble_eq_true rfl) (Nat.le_of_ble_eq_true rfl) (fun v1 hv1 => ?_)
  refine J_wq (show _ = oW G o R a S ec ep ++ stW G d S from rfl) ?_
  refine J_aload_n hC dX10_lookAhead_11 0 rfl rfl ?_
  refine J_get (v := .ref (d 0)) hC wu_X10 rfl dX10_lookAhead_12 0 3 (by decide) wf_X10_26 rfl (by rw [← hd]; rfl) ?_
  refine J_iload_n hC dX10_lookAhead_15 1 rfl rfl ?_
  refine J_callVv hC dX10_lookAhead_16 wl_X10_294 yi_X8_letDaysPass (appr_v (oW G o R a S ec ep) (c_X8_letDaysPass _ G d S (bcO S) (vcO S) (fcO S) (mcO S) dn hI.1.1 (by have := hI.1.2; omega) hI.2.1.1 (by have := hI.2.1.2; omega) hI.2.2.1.1 (by have := hI.2.2.1.2; omega) hI.2.2.2.1 (by have := hI.2.2.2.2; omega) hn)) rfl rfl 23 8 rfl rfl ⟨Nat.le_of_ble_eq_true rfl, Nat.le_of_ble_eq_true rfl⟩ (Nat.le_of_ble_eq_true rfl) (Nat.le_of_ble_eq_true rfl) (Nat.le_of_ble_eq_true rfl) (fun v2 hv2 => ?_)
  exact J_vret hC hR dX10_lookAhead_19 () trivial rfl (by decide) (by decide)
/-- the bytes that writeForecast puts -/
def b_fc (S : CT) (pl vi dy : Nat) (q : RT × Nat) : RT × Nat := w_put (if S 12 pl = 0 then 115 else if S 12 pl = 1 then 114 else 116) (b_dec dy (b_nam (S 0 vi) q))
set_option maxRecDepth 100000 in
set_option maxHeartbeats 4000000 in
theorem c_X10_writeForecast (l : Launch) (G : gT) (o : Nat) (R a bo : Nat → Nat) (S : CT) (ec ep : Int32) (q : RT × Nat) (pl vi dy : Nat) (hb : R 1 = bo 0) (hp : pl < 30) (hvi : S 10 pl = nI vi) (hv6 : vi < 6) (hdy : S 11 pl = nI dy) (hd9 : dy ≤ 1000000000) (hq : q.2 ≤ 570) : MV l yX10_writeForecast cX10_writeForecast 3 { frames := 2, cells := 0, slots := 0, locals := 60 } [.ref o, .int (nI pl)] G (oW G o R a S ec ep ++ byQ G bo q) (fun (_ : Unit) => True) (fun _ => oW G o R a S ec ep ++ byQ G bo (b_fc S pl vi dy q)) := by
  refine jm_v (own := RX10) (by decide) rfl (Nat.le_of_ble_eq_true rfl) (fun x hl hC hR hN => ?_)
  subst hl
  refine J_aload_n hC dX10_writeForecast_0 0 rfl rfl ?_
  refine J_get (v := .ref (bo 0)) hC wu_X10 rfl dX10_writeForecast_1 0 1 (by decide) wf_X10_16 rfl (by rw [← hb]; rfl) ?_
  refine J_aload_n hC dX10_writeForecast_4 0 rfl rfl ?_
  refine J_get (v := .ref (a 0)) hC wu_X10 rfl dX10_writeForecast_5 0 2 (by decide) wf_X10_22 rfl rfl ?_
  refine J_get (v := .ref (a 1)) hC wu_X8 rfl dX10_writeForecast_8 1 0 (by decide) wf_X10_99 rfl rfl ?_
  refine J_get (v := .ref (a 2)) hC wu_X9 rfl dX10_writeForecast_11 2 0 (by decide) wf_X10_326 rfl rfl ?_
  refine J_aload_n hC dX10_writeForecast_14 0 rfl rfl ?_
  refine J_get (v := .ref (a 0)) hC wu_X10 rfl dX10_writeForecast_15 0 2 (by decide) wf_X10_22 rfl rfl ?_
  refine J_get (v := .ref (a 14)) hC wu_X8 rfl dX10_writeForecast_18 1 3 (by decide) wf_X10_149 rfl rfl ?_
  refine J_get (v := .ref (a 15)) hC wu_X0 rfl dX10_writeForecast_21 15 0 (by decide) wf_X10_329 rfl rfl ?_
  refine J_iload_n hC dX10_writeForecast_24 1 rfl rfl ?_
  refine J_iald (v := nI vi) hC dX10_writeForecast_25 16 rfl hp (by decide) hvi ?_
  refine J_iald (v := S 0 vi) hC dX10_writeForecast_26 3 rfl hv6 (by decide) rfl ?_
  refine J_callVv hC dX10_writeForecast_27 wl_X10_330 yi_X1_putName (appr_v (oW G o R a S ec ep) (c_X1_putName _ G bo q (S 0 vi) (by omega))) rfl rfl 23 1 rfl rfl ⟨Nat.le_of_ble_eq_true rfl, Nat.le_of_ble_eq_true rfl⟩ (Nat.le_of_ble_eq_true rfl) (Nat.le_of_ble_eq_true rfl) (Nat.le_of_ble_eq_true rfl) (fun v1 hv1 => ?_)
  obtain ⟨q1, e1⟩ : ∃ z9, z9 = b_nam (S 0 vi) q := ⟨_, rfl⟩
  have hq1 : q1.2 ≤ q.2 + 4 := by rw [e1]; exact b_nam_le _ _
  refine J_wq (congrArg (fun z9 => oW G o R a S ec ep ++ byQ G bo z9) e1.symm) ?_
  refine J_aload_n hC dX10_writeForecast_30 0 rfl rfl ?_
  refine J_get (v := .ref (bo 0)) hC wu_X10 rfl dX10_writeForecast_31 0 1 (by decide) wf_X10_16 rfl (by rw [← hb]; rfl) ?_
  refine J_aload_n hC dX10_writeForecast_34 0 rfl rfl ?_
  refine J_get (v := .ref (a 0)) hC wu_X10 rfl dX10_writeForecast_35 0 2 (by decide) wf_X10_22 rfl rfl ?_
  refine J_get (v := .ref (a 14)) hC wu_X8 rfl dX10_writeForecast_38 1 3 (by decide) wf_X10_149 rfl rfl ?_
  refine J_get (v := .ref (a 16)) hC wu_X0 rfl dX10_writeForecast_41 15 1 (by decide) wf_X10_333 rfl rfl ?_
  refine J_iload_n hC dX10_writeForecast_44 1 rfl rfl ?_
  refine J_iald (v := nI dy) hC dX10_writeForecast_45 17 rfl hp (by decide) hdy ?_
  refine J_callVv hC dX10_writeForecast_46 wl_X10_336 yi_X1_putDecimal (appr_v (oW G o R a S ec ep) (c_X1_putDecimal _ G bo q1 dy hd9 (by omega))) rfl rfl 23 1 rfl rfl ⟨Nat.le_of_ble_eq_true rfl, Nat.le_of_ble_eq_true rfl⟩ (Nat.le_of_ble_eq_true rfl) (Nat.le_of_ble_eq_true rfl) (Nat.le_of_ble_eq_true rfl) (fun v2 hv2 => ?_)
  obtain ⟨q2, e2⟩ : ∃ z9, z9 = b_dec dy q1 := ⟨_, rfl⟩
  have hq2 : q2.2 ≤ q1.2 + 10 := by rw [e2]; exact w_dec_le dy q1
  refine J_wq (congrArg (fun z9 => oW G o R a S ec ep ++ byQ G bo z9) e2.symm) ?_
  have hfin : ∀ w, w = (if S 12 pl = 0 then 115 else if S 12 pl = 1 then 114 else 116) → b_fc S pl vi dy q = w_put w q2 := fun w hw => by rw [b_fc, hw, e2, e1]
  refine J_aload_n hC dX10_writeForecast_49 0 rfl rfl ?_
  refine J_get (v := .ref (a 0)) hC wu_X10 rfl dX10_writeForecast_50 0 2 (by decide) wf_X10_22 rfl rfl ?_
  refine J_get (v := .ref (a 14)) hC wu_X8 rfl dX10_writeForecast_53 1 3 (by decide) wf_X10_149 rfl rfl ?_
  refine J_get (v := .ref (a 17)) hC wu_X0 rfl dX10_writeForecast_56 15 2 (by decide) wf_X10_189 rfl rfl ?_
  refine J_iload_n hC dX10_writeForecast_59 1 rfl rfl ?_
  refine J_iald (v := S 12 pl) hC dX10_writeForecast_60 18 rfl hp (by decide) rfl ?_
  refine J_istore_n hC [(2, .int (S 12 pl)), (0, .ref o), (1, .int (nI pl))] dX10_writeForecast_61 rfl (by decide) rfl ?_
  refine J_aload_n hC dX10_writeForecast_62 1 rfl rfl ?_
  refine J_get (v := .ref (bo 0)) hC wu_X10 rfl dX10_writeForecast_63 0 1 (by decide) wf_X10_16 rfl (by rw [← hb]; rfl) ?_
  refine J_iload_n hC dX10_writeForecast_66 0 rfl rfl ?_
  have j_87 : ∀ w, w = (if S 12 pl = 0 then 115 else if S 12 pl = 1 then 114 else 116) → J x G (oW G o R a S ec ep ++ byQ G bo q2) 0 0 [(2, .int (S 12 pl)), (0, .ref o), (1, .int (nI pl))] [.int w, .ref (bo 0)] 87 := fun w hw => by
    refine J_callVv hC dX10_writeForecast_87 wl_X10_303 yi_X1_put (appr_v (oW G o R a S ec ep) (c_X1_put _ G bo q2 w (by omega))) rfl rfl 23 1 rfl rfl ⟨Nat.le_of_ble_eq_true rfl, Nat.le_of_ble_eq_true rfl⟩ (Nat.le_of_ble_eq_true rfl) (Nat.le_of_ble_eq_true rfl) (Nat.le_of_ble_eq_true rfl) (fun v3 hv3 => ?_)
    exact J_vret hC hR dX10_writeForecast_90 () trivial (by rw [hfin w hw]) (by decide) (by decide)
  refine J_if_ne (tgt := 75) hC dX10_writeForecast_67 (by decide) (fun c => ?_) (fun c => ?_)
  · refine J_iload_n hC dX10_writeForecast_75 0 rfl rfl ?_
    refine J_iconst (v := 1) hC dX10_writeForecast_76 rfl ?_
    refine J_ic_ne (tgt := 85) hC dX10_writeForecast_77 (by decide) (fun c2 => ?_) (fun c2 => ?_)
    · refine J_bipush (v := 116) hC dX10_writeForecast_85 rfl ?_
      exact j_87 116 (by rw [if_neg c, if_neg c2])
    · refine J_bipush (v := 114) hC dX10_writeForecast_80 rfl ?_
      refine J_goto (tgt := 87) hC dX10_writeForecast_82 (by decide) ?_
      exact j_87 114 (by rw [if_neg c, if_pos c2])
  · refine J_bipush (v := 115) hC dX10_writeForecast_70 rfl ?_
    refine J_goto (tgt := 87) hC dX10_writeForecast_72 (by decide) ?_
    exact j_87 115 (by rw [if_pos c])

/-- the chance of a weather, out of its odds and the sum of the odds -/
def fd_ratio (a b : Int32) : UInt64 := if b = 0 then FP.dconst0 else FP.ddiv (FP.i2d a) (FP.i2d b)
def ff_ratio (a b : Int32) : UInt32 := if b = 0 then FP.fconst0 else FP.fdiv (FP.i2f a) (FP.i2f b)
theorem ff_n64 (a b : Int32) : vf_n64 (FP.f2d (ff_ratio a b)) := by
  unfold ff_ratio
  split
  · unfold vf_n64; decide +kernel
  · rename_i h
    obtain ⟨d, h1, h2⟩ := fp_fdivD a b h
    rw [h2]
    exact fp_f2d d h1

set_option maxRecDepth 100000 in
set_option maxHeartbeats 4000000 in
theorem c_X10_chanceOf (l : Launch) (G : gT) (o : Nat) (R a : Nat → Nat) (S : CT) (ec ep : Int32) (v : Int32) (hst : l.stackTraces = false) : TD l yX10_chanceOf cX10_chanceOf 3 { frames := 7, cells := 1, slots := 6, locals := 104 } [.ref o, .int v] G (oW G o R a S ec ep) (fun r9 (w : Nat) => (w < 3 ∧ v = nI w) ∧ r9 = fd_ratio (S 8 w) (s_sumO S)) (fun _ => oW G o R a S ec ep) (fun (_ : Unit) => ¬ (¬ v < 0 ∧ ¬ 2 < v)) (fun _ => eIAE) (fun _ => oW G o R a S ec ep) := by
  refine jt_d (own := RX10) hst (by decide) rfl (Nat.le_of_ble_eq_true rfl) (fun x hl hC hR hN => ?_)
  subst hl
  refine J_aload_n hC dX10_chanceOf_0 0 rfl rfl ?_
  refine J_iload_n hC dX10_chanceOf_1 1 rfl rfl ?_
  refine J_iconst (v := 0) hC dX10_chanceOf_2 rfl ?_
  refine J_iconst (v := 2) hC dX10_chanceOf_3 rfl ?_
  refine J_callTv hC hR.2 dX10_chanceOf_4 wl_X10_84 yi_X10_requireRange (c_X10_requireRange _ G o R a S ec ep v 0 2 hst) rfl rfl 0 10 rfl rfl ⟨Nat.le_of_ble_eq_true rfl, Nat.le_of_ble_eq_true rfl⟩ (Nat.le_of_ble_eq_true rfl) (Nat.le_of_ble_eq_true rfl) (Nat.le_of_ble_eq_true rfl) (Nat.le_of_ble_eq_true rfl) (Nat.le_of_ble_eq_true rfl) (fun _ h9 => ⟨(), h9, rfl, rfl⟩) (fun u hv0 => ?_)
  refine J_wq (show _ = oW G o R a S ec ep from rfl) ?_
  obtain ⟨w, hw, hv⟩ := wea_nat hv0
  subst hv
  refine J_aload_n hC dX10_chanceOf_7 0 rfl rfl ?_
  refine J_get (v := .ref (a 0)) hC wu_X10 rfl dX10_chanceOf_8 0 2 (by decide) wf_X10_22 rfl rfl ?_
  refine J_get (v := .ref (a 11)) hC wu_X8 rfl dX10_chanceOf_11 1 2 (by decide) wf_X10_111 rfl rfl ?_
  refine J_callVi hC dX10_chanceOf_14 wl_X10_178 yi_X7_sumOfOdds (cons_i (c_X7_sumOfOdds _ G a S)) rfl rfl 12 7 rfl rfl ⟨Nat.le_of_ble_eq_true rfl, Nat.le_of_ble_eq_true rfl⟩ (Nat.le_of_ble_eq_true rfl) (Nat.le_of_ble_eq_true rfl) (Nat.le_of_ble_eq_true rfl) (fun r9 u9 h9 => ?_)
  refine J_wq (show _ = oW G o R a S ec ep from rfl) ?_
  subst h9
  refine J_istore_n hC [(2, .int (s_sumO S)), (0, .ref o), (1, .int (nI w))] dX10_chanceOf_17 rfl (by decide) rfl ?_
  refine J_iload_n hC dX10_chanceOf_18 0 rfl rfl ?_
  refine J_if_ne (tgt := 26) hC dX10_chanceOf_19 (by decide) (fun c => ?_) (fun c => ?_)
  · refine J_aload_n hC dX10_chanceOf_26 1 rfl rfl ?_
    refine J_get (v := .ref (a 0)) hC wu_X10 rfl dX10_chanceOf_27 0 2 (by decide) wf_X10_22 rfl rfl ?_
    refine J_get (v := .ref (a 11)) hC wu_X8 rfl dX10_chanceOf_30 1 2 (by decide) wf_X10_111 rfl rfl ?_
    refine J_get (v := .ref (a 12)) hC wu_X7 rfl dX10_chanceOf_33 12 0 (by decide) wf_X10_175 rfl rfl ?_
    refine J_iload_n hC dX10_chanceOf_36 2 rfl rfl ?_
    refine J_iald (v := S 8 w) hC dX10_chanceOf_37 13 rfl hw (by decide) rfl ?_
    refine J_i2d hC dX10_chanceOf_38 ?_
    refine J_iload_n hC dX10_chanceOf_39 0 rfl rfl ?_
    refine J_i2d hC dX10_chanceOf_40 ?_
    refine J_ddiv hC dX10_chanceOf_41 (fp_ddiv _ _ c) ?_
    exact J_dretT hC hR dX10_chanceOf_42 w ⟨⟨hw, rfl⟩, by rw [fd_ratio, if_neg c]⟩ rfl (Nat.le_of_ble_eq_true rfl) (Nat.le_of_ble_eq_true rfl)
  · refine J_dconst0 hC dX10_chanceOf_22 ?_
    refine J_goto (tgt := 42) hC dX10_chanceOf_23 (by decide) ?_
    exact J_dretT hC hR dX10_chanceOf_42 w ⟨⟨hw, rfl⟩, by rw [fd_ratio, if_pos c]⟩ rfl (Nat.le_of_ble_eq_true rfl) (Nat.le_of_ble_eq_true rfl)

set_option maxRecDepth 100000 in
set_option maxHeartbeats 4000000 in
theorem c_X10_hitShare (l : Launch) (G : gT) (o : Nat) (R a : Nat → Nat) (S : CT) (ec ep : Int32) : MF l yX10_hitShare cX10_hitShare 2 { frames := 0, cells := 0, slots := 0, locals := 20 } [.ref o] G (oW G o R a S ec ep) (fun r9 (_ : Unit) => r9 = ff_ratio (S 16 2) (S 16 2 + S 16 3)) (fun _ => oW G o R a S ec ep) := by
  refine jm_f (own := RX10) (by decide) rfl (Nat.le_of_ble_eq_true rfl) (fun x hl hC hR hN => ?_)
  subst hl
  refine J_aload_n hC dX10_hitShare_0 0 rfl rfl ?_
  refine J_get (v := .ref (a 0)) hC wu_X10 rfl dX10_hitShare_1 0 2 (by decide) wf_X10_22 rfl rfl ?_
  refine J_get (v := .int (S 16 2)) hC wu_X8 rfl dX10_hitShare_4 1 7 (by decide) wf_X10_249 rfl rfl ?_
  refine J_aload_n hC dX10_hitShare_7 0 rfl rfl ?_
  refine J_get (v := .ref (a 0)) hC wu_X10 rfl dX10_hitShare_8 0 2 (by decide) wf_X10_22 rfl rfl ?_
  refine J_get (v := .int (S 16 3)) hC wu_X8 rfl dX10_hitShare_11 1 8 (by decide) wf_X10_252 rfl rfl ?_
  refine J_iadd (v := S 16 2 + S 16 3) hC dX10_hitShare_14 rfl ?_
  refine J_istore_n hC [(1, .int (S 16 2 + S 16 3)), (0, .ref o)] dX10_hitShare_15 rfl (by decide) rfl ?_
  refine J_iload_n hC dX10_hitShare_16 0 rfl rfl ?_
  refine J_if_ne (tgt := 24) hC dX10_hitShare_17 (by decide) (fun c => ?_) (fun c => ?_)
  · refine J_aload_n hC dX10_hitShare_24 1 rfl rfl ?_
    refine J_get (v := .ref (a 0)) hC wu_X10 rfl dX10_hitShare_25 0 2 (by decide) wf_X10_22 rfl rfl ?_
    refine J_get (v := .int (S 16 2)) hC wu_X8 rfl dX10_hitShare_28 1 7 (by decide) wf_X10_249 rfl rfl ?_
    refine J_i2f hC dX10_hitShare_31 ?_
    refine J_iload_n hC dX10_hitShare_32 0 rfl rfl ?_
    refine J_i2f hC dX10_hitShare_33 ?_
    refine J_fdiv hC dX10_hitShare_34 (fp_fdiv _ _ c) ?_
    exact J_fret hC hR dX10_hitShare_35 () (by rw [ff_ratio, if_neg c]) rfl (by decide) (by decide)
  · refine J_fconst0 hC dX10_hitShare_20 ?_
    refine J_goto (tgt := 35) hC dX10_hitShare_21 (by decide) ?_
    exact J_fret hC hR dX10_hitShare_35 () (by rw [ff_ratio, if_pos c]) rfl (by decide) (by decide)

set_option maxRecDepth 100000 in
set_option maxHeartbeats 4000000 in
theorem c_X10_averageTrust (l : Launch) (G : gT) (o : Nat) (R a : Nat → Nat) (S : CT) (ec ep : Int32) (hI : CI S) : MD l yX10_averageTrust cX10_averageTrust 2 { frames := 1, cells := 0, slots := 0, locals := 42 } [.ref o] G (oW G o R a S ec ep) (fun r9 (_ : Unit) => r9 = fd_ratio (s_sumT S (vcO S)) (S 16 9)) (fun _ => oW G o R a S ec ep) := by
  refine jm_d (own := RX10) (by decide) rfl (Nat.le_of_ble_eq_true rfl) (fun x hl hC hR hN => ?_)
  subst hl
  refine J_aload_n hC dX10_averageTrust_0 0 rfl rfl ?_
  refine J_get (v := .ref (a 0)) hC wu_X10 rfl dX10_averageTrust_1 0 2 (by decide) wf_X10_22 rfl rfl ?_
  refine J_get (v := .ref (a 1)) hC wu_X8 rfl dX10_averageTrust_4 1 0 (by decide) wf_X10_99 rfl rfl ?_
  refine J_get (v := .int (S 16 9)) hC wu_X9 rfl dX10_averageTrust_7 2 3 (by decide) wf_X10_103 rfl rfl ?_
  refine J_istore_n hC [(1, .int (S 16 9)), (0, .ref o)] dX10_averageTrust_10 rfl (by decide) rfl ?_
  refine J_iload_n hC dX10_averageTrust_11 0 rfl rfl ?_
  refine J_if_ne (tgt := 19) hC dX10_averageTrust_12 (by decide) (fun c => ?_) (fun c => ?_)
  · refine J_aload_n hC dX10_averageTrust_19 1 rfl rfl ?_
    refine J_get (v := .ref (a 0)) hC wu_X10 rfl dX10_averageTrust_20 0 2 (by decide) wf_X10_22 rfl rfl ?_
    refine J_get (v := .ref (a 1)) hC wu_X8 rfl dX10_averageTrust_23 1 0 (by decide) wf_X10_99 rfl rfl ?_
    refine J_callVi hC dX10_averageTrust_26 wl_X10_285 yi_X9_sumOfTrusts (cons_i (c_X9_sumOfTrusts _ G a S (vcO S) hI.2.1.1 hI.2.1.2)) rfl rfl 2 9 rfl rfl ⟨Nat.le_of_ble_eq_true rfl, Nat.le_of_ble_eq_true rfl⟩ (Nat.le_of_ble_eq_true rfl) (Nat.le_of_ble_eq_true rfl) (Nat.le_of_ble_eq_true rfl) (fun r9 u9 h9 => ?_)
    refine J_wq (show _ = oW G o R a S ec ep from rfl) ?_
    subst h9
    refine J_i2d hC dX10_averageTrust_29 ?_
    refine J_iload_n hC dX10_averageTrust_30 0 rfl rfl ?_
    refine J_i2d hC dX10_averageTrust_31 ?_
    refine J_ddiv hC dX10_averageTrust_32 (fp_ddiv _ _ c) ?_
    exact J_dret hC hR dX10_averageTrust_33 () (by rw [fd_ratio, if_neg c]) rfl (by decide) (by decide)
  · refine J_dconst0 hC dX10_averageTrust_15 ?_
    refine J_goto (tgt := 33) hC dX10_averageTrust_16 (by decide) ?_
    exact J_dret hC hR dX10_averageTrust_33 () (by rw [fd_ratio, if_pos c]) rfl (by decide) (by decide)

set_option maxRecDepth 100000 in
set_option maxHeartbeats 4000000 in
theorem c_X11_hitShare (l : Launch) (G : gT) (m : Nat → Nat) (M : CT) : MF l yX11_hitShare cX11_hitShare 2 { frames := 0, cells := 0, slots := 0, locals := 20 } [.ref (m 0)] G (mdW G m M) (fun r9 (_ : Unit) => r9 = ff_ratio (M 0 10) (M 0 10 + M 0 11)) (fun _ => mdW G m (us M 8 2 0)) := by
  refine jm_f (own := RX11) (by decide) rfl (Nat.le_of_ble_eq_true rfl) (fun x hl hC hR hN => ?_)
  subst hl
  refine J_aload_n hC dX11_hitShare_0 0 rfl rfl ?_
  refine J_iconst (v := 0) hC dX11_hitShare_1 rfl ?_
  refine J_put (ws' := mdW G m (us M 8 2 0)) hC wu_X11 rfl tyX11_ok nmX11 dX11_hitShare_2 0 8 (by decide) wf_X11_66 rfl rfl (Nat.le_of_ble_eq_true rfl) rfl rfl rfl ?_
  refine J_aload_n hC dX11_hitShare_5 0 rfl rfl ?_
  refine J_get (v := .ref (m 1)) hC wu_X11 rfl dX11_hitShare_6 0 0 (by decide) wf_X11_7 rfl rfl ?_
  refine J_bipush (v := nI 10) hC dX11_hitShare_9 rfl ?_
  refine J_iald (v := M 0 10) hC dX11_hitShare_11 1 rfl (show 10 < 242 by decide) (by decide) rfl ?_
  refine J_aload_n hC dX11_hitShare_12 0 rfl rfl ?_
  refine J_get (v := .ref (m 1)) hC wu_X11 rfl dX11_hitShare_13 0 0 (by decide) wf_X11_7 rfl rfl ?_
  refine J_bipush (v := nI 11) hC dX11_hitShare_16 rfl ?_
  refine J_iald (v := M 0 11) hC dX11_hitShare_18 1 rfl (show 11 < 242 by decide) (by decide) rfl ?_
  refine J_iadd (v := M 0 10 + M 0 11) hC dX11_hitShare_19 rfl ?_
  refine J_istore_n hC [(1, .int (M 0 10 + M 0 11)), (0, .ref (m 0))] dX11_hitShare_20 rfl (by decide) rfl ?_
  refine J_iload_n hC dX11_hitShare_21 0 rfl rfl ?_
  refine J_if_ne (tgt := 29) hC dX11_hitShare_22 (by decide) (fun c => ?_) (fun c => ?_)
  · refine J_aload_n hC dX11_hitShare_29 1 rfl rfl ?_
    refine J_get (v := .ref (m 1)) hC wu_X11 rfl dX11_hitShare_30 0 0 (by decide) wf_X11_7 rfl rfl ?_
    refine J_bipush (v := nI 10) hC dX11_hitShare_33 rfl ?_
    refine J_iald (v := M 0 10) hC dX11_hitShare_35 1 rfl (show 10 < 242 by decide) (by decide) rfl ?_
    refine J_i2f hC dX11_hitShare_36 ?_
    refine J_iload_n hC dX11_hitShare_37 0 rfl rfl ?_
    refine J_i2f hC dX11_hitShare_38 ?_
    refine J_fdiv hC dX11_hitShare_39 (fp_fdiv _ _ c) ?_
    exact J_fret hC hR dX11_hitShare_40 () (by rw [ff_ratio, if_neg c]) rfl (by decide) (by decide)
  · refine J_fconst0 hC dX11_hitShare_25 ?_
    refine J_goto (tgt := 40) hC dX11_hitShare_26 (by decide) ?_
    exact J_fret hC hR dX11_hitShare_40 () (by rw [ff_ratio, if_pos c]) rfl (by decide) (by decide)

set_option maxRecDepth 100000 in
set_option maxHeartbeats 4000000 in
theorem c_X11_chanceOf (l : Launch) (G : gT) (m : Nat → Nat) (M : CT) (v : Int32) (hos : ∀ w, w < 3 → ¬ m_allOdds (M 0) = 0) : MD l yX11_chanceOf cX11_chanceOf 2 { frames := 3, cells := 0, slots := 0, locals := 70 } [.ref (m 0), .int v] G (mdW G m M) (fun r9 (u : CT) => ((inr v 3) ∧ r9 = FP.ddiv (FP.i2d (M 0 (1 + cl v))) (FP.i2d (m_allOdds (M 0))) ∧ us M 8 2 0 = u) ∨ (¬ (inr v 3) ∧ us M 8 2 1 = u)) (fun u => mdW G m u) := by
  refine jm_d (own := RX11) (by decide) rfl (Nat.le_of_ble_eq_true rfl) (fun x hl hC hR hN => ?_)
  subst hl
  refine J_aload_n hC dX11_chanceOf_0 0 rfl rfl ?_
  refine J_iload_n hC dX11_chanceOf_1 1 rfl rfl ?_
  refine J_callVi hC dX11_chanceOf_2 wl_X11_290 yi_X11_noWeather (c_X11_noWeather _ G m M v) rfl rfl 0 11 rfl rfl ⟨Nat.le_of_ble_eq_true rfl, Nat.le_of_ble_eq_true rfl⟩ (Nat.le_of_ble_eq_true rfl) (Nat.le_of_ble_eq_true rfl) (Nat.le_of_ble_eq_true rfl) (fun r9 u9 h9 => ?_)
  rcases h9 with ⟨c, rfl, rfl⟩ | ⟨c, rfl, rfl⟩
  · refine J_if_eq (tgt := 10) hC dX11_chanceOf_5 (by decide) (fun _ => ?_) (fun c9 => absurd rfl c9)
    obtain ⟨w, hw, hv⟩ := has_nat c (by decide)
    subst hv
    have hcl : cl (nI w) = w := nI_clamp (by omega)
    refine J_aload_n hC dX11_chanceOf_10 0 rfl rfl ?_
    refine J_get (v := .ref (m 1)) hC wu_X11 rfl dX11_chanceOf_11 0 0 (by decide) wf_X11_7 rfl rfl ?_
    refine J_iconst (v := nI 1) hC dX11_chanceOf_14 rfl ?_
    refine J_iload_n hC dX11_chanceOf_15 1 rfl rfl ?_
    refine J_iadd (v := nI (1 + w)) hC dX11_chanceOf_16 (nI_add 1 w) ?_
    refine J_iald (v := M 0 (1 + w)) hC dX11_chanceOf_17 1 rfl (show 1 + w < 242 by omega) (by decide) rfl ?_
    refine J_i2d hC dX11_chanceOf_18 ?_
    refine J_aload_n hC dX11_chanceOf_19 0 rfl rfl ?_
    refine J_get (v := .ref (m 1)) hC wu_X11 rfl dX11_chanceOf_20 0 0 (by decide) wf_X11_7 rfl rfl ?_
    refine J_callSi hC dX11_chanceOf_23 wl_X11_108 wi_X11 yi_X11_allOdds (mdl0_ir (c_X11_allOdds _ G (m 1) (us M 8 2 0 0))) rfl rfl ⟨Nat.le_of_ble_eq_true rfl, Nat.le_of_ble_eq_true rfl⟩ (Nat.le_of_ble_eq_true rfl) (Nat.le_of_ble_eq_true rfl) (Nat.le_of_ble_eq_true rfl) (fun r7 u7 h7 => ?_)
    subst h7
    refine J_i2d hC dX11_chanceOf_26 ?_
    refine J_ddiv hC dX11_chanceOf_27 (fp_ddiv _ _ (hos w hw)) ?_
    exact J_dret hC hR dX11_chanceOf_28 (us M 8 2 0) (Or.inl ⟨c, by rw [hcl]; rfl, rfl⟩) rfl (by decide) (by decide)
  · refine J_if_eq (tgt := 10) hC dX11_chanceOf_5 (by decide) (fun c9 => absurd c9 (by decide)) (fun _ => ?_)
    refine J_dconst0 hC dX11_chanceOf_8 ?_
    exact J_dret hC hR dX11_chanceOf_9 (us M 8 2 1) (Or.inr ⟨c, rfl⟩) rfl (by decide) (by decide)

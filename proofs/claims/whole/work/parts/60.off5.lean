def b_app (z1 z2 z3 z4 z5 : Int32) (q : RT × Nat) : RT × Nat := b_four z5 (b_four z4 (b_four z3 (b_four z2 (b_four z1 q))))
set_option maxRecDepth 100000 in
set_option maxHeartbeats 4000000 in
theorem c_X10_appendInput (l : Launch) (G : gT) (o : Nat) (R a : Nat → Nat) (S : CT) (ec ep : Int32) (z1 z2 z3 z4 z5 : Int32) (bi : Nat → Nat) (q : RT × Nat) (hb : R 0 = bi 0) (hq : q.2 ≤ 600) (hst : l.stackTraces = false) : TI l yX10_appendInput cX10_appendInput 6 (some .int) { frames := 6, cells := 1, slots := 6, locals := 90 } [.ref o, .int z1, .int z2, .int z3, .int z4, .int z5] G (oW G o R a S ec ep ++ byQ G bi q) (fun r9 (_ : Unit) => q.2 + 20 ≤ 600 ∧ r9 = nI (q.2 + 20)) (fun _ => oW G o R a S ec ep ++ byQ G bi (b_app z1 z2 z3 z4 z5 q)) (fun (_ : Unit) => ¬ q.2 + 20 ≤ 600) (fun _ => eISE) (fun _ => oW G o R a S ec ep ++ byQ G bi q) := by
  refine jt_i (own := RX10) hst (by decide) rfl (Nat.le_of_ble_eq_true rfl) (fun x hl hC hR hN => ?_)
  subst hl
  refine J_aload_n hC dX10_appendInput_0 0 rfl rfl ?_
  refine J_get (v := .ref (bi 0)) hC wu_X10 rfl dX10_appendInput_1 0 0 (by decide) wf_X10_10 rfl (by rw [← hb]; rfl) ?_
  refine J_bipush (v := nI 20) hC dX10_appendInput_4 rfl ?_
  refine J_callVi hC dX10_appendInput_6 wl_X10_70 yi_X1_hasRoomFor (appr_i (oW G o R a S ec ep) (c_X1_hasRoomFor _ G bi q 20 hq (by omega))) rfl rfl 23 1 rfl rfl ⟨Nat.le_of_ble_eq_true rfl, Nat.le_of_ble_eq_true rfl⟩ (Nat.le_of_ble_eq_true rfl) (Nat.le_of_ble_eq_true rfl) (Nat.le_of_ble_eq_true rfl) (fun r9 u9 h9 => ?_)
  refine J_wq (show _ = oW G o R a S ec ep ++ byQ G bi q from rfl) ?_
  rcases h9 with ⟨rfl, c⟩ | ⟨rfl, c⟩
  · refine J_if_ne (tgt := 20) hC dX10_appendInput_9 (by decide) (fun _ => ?_) (fun c9 => absurd c9 (by decide))
    refine J_aload_n hC dX10_appendInput_20 0 rfl rfl ?_
    refine J_get (v := .ref (bi 0)) hC wu_X10 rfl dX10_appendInput_21 0 0 (by decide) wf_X10_10 rfl (by rw [← hb]; rfl) ?_
    refine J_iload_n hC dX10_appendInput_24 1 rfl rfl ?_
    refine J_callVv hC dX10_appendInput_25 wl_X10_77 yi_X1_putFour (appr_v (oW G o R a S ec ep) (c_X1_putFour _ G bi q z1 (by omega))) rfl rfl 23 1 rfl rfl ⟨Nat.le_of_ble_eq_true rfl, Nat.le_of_ble_eq_true rfl⟩ (Nat.le_of_ble_eq_true rfl) (Nat.le_of_ble_eq_true rfl) (Nat.le_of_ble_eq_true rfl) (fun u0 h0 => ?_)
    obtain ⟨q1, e1⟩ : ∃ z9, z9 = b_four z1 q := ⟨_, rfl⟩
    have hq1 : q1.2 = q.2 + 4 := by rw [e1]; show q.2 + 4 = _; omega
    refine J_wq (congrArg (fun z9 => oW G o R a S ec ep ++ byQ G bi z9) e1.symm) ?_
    refine J_aload_n hC dX10_appendInput_28 0 rfl rfl ?_
    refine J_get (v := .ref (bi 0)) hC wu_X10 rfl dX10_appendInput_29 0 0 (by decide) wf_X10_10 rfl (by rw [← hb]; rfl) ?_
    refine J_iload_n hC dX10_appendInput_32 2 rfl rfl ?_
    refine J_callVv hC dX10_appendInput_33 wl_X10_77 yi_X1_putFour (appr_v (oW G o R a S ec ep) (c_X1_putFour _ G bi q1 z2 (by omega))) rfl rfl 23 1 rfl rfl ⟨Nat.le_of_ble_eq_true rfl, Nat.le_of_ble_eq_true rfl⟩ (Nat.le_of_ble_eq_true rfl) (Nat.le_of_ble_eq_true rfl) (Nat.le_of_ble_eq_true rfl) (fun u1 h1 => ?_)
    obtain ⟨q2, e2⟩ : ∃ z9, z9 = b_four z2 q1 := ⟨_, rfl⟩
    have hq2 : q2.2 = q.2 + 8 := by rw [e2]; show q1.2 + 4 = _; omega
    refine J_wq (congrArg (fun z9 => oW G o R a S ec ep ++ byQ G bi z9) e2.symm) ?_
    refine J_aload_n hC dX10_appendInput_36 0 rfl rfl ?_
    refine J_get (v := .ref (bi 0)) hC wu_X10 rfl dX10_appendInput_37 0 0 (by decide) wf_X10_10 rfl (by rw [← hb]; rfl) ?_
    refine J_iload_n hC dX10_appendInput_40 3 rfl rfl ?_
    refine J_callVv hC dX10_appendInput_41 wl_X10_77 yi_X1_putFour (appr_v (oW G o R a S ec ep) (c_X1_putFour _ G bi q2 z3 (by omega))) rfl rfl 23 1 rfl rfl ⟨Nat.le_of_ble_eq_true rfl, Nat.le_of_ble_eq_true rfl⟩ (Nat.le_of_ble_eq_true rfl) (Nat.le_of_ble_eq_true rfl) (Nat.le_of_ble_eq_true rfl) (fun u2 h2 => ?_)
    obtain ⟨q3, e3⟩ : ∃ z9, z9 = b_four z3 q2 := ⟨_, rfl⟩
    have hq3 : q3.2 = q.2 + 12 := by rw [e3]; show q2.2 + 4 = _; omega
    refine J_wq (congrArg (fun z9 => oW G o R a S ec ep ++ byQ G bi z9) e3.symm) ?_
    refine J_aload_n hC dX10_appendInput_44 0 rfl rfl ?_
    refine J_get (v := .ref (bi 0)) hC wu_X10 rfl dX10_appendInput_45 0 0 (by decide) wf_X10_10 rfl (by rw [← hb]; rfl) ?_
    refine J_iload hC dX10_appendInput_48 4 rfl ?_
    refine J_callVv hC dX10_appendInput_50 wl_X10_77 yi_X1_putFour (appr_v (oW G o R a S ec ep) (c_X1_putFour _ G bi q3 z4 (by omega))) rfl rfl 23 1 rfl rfl ⟨Nat.le_of_ble_eq_true rfl, Nat.le_of_ble_eq_true rfl⟩ (Nat.le_of_ble_eq_true rfl) (Nat.le_of_ble_eq_true rfl) (Nat.le_of_ble_eq_true rfl) (fun u3 h3 => ?_)
    obtain ⟨q4, e4⟩ : ∃ z9, z9 = b_four z4 q3 := ⟨_, rfl⟩
    have hq4 : q4.2 = q.2 + 16 := by rw [e4]; show q3.2 + 4 = _; omega
    refine J_wq (congrArg (fun z9 => oW G o R a S ec ep ++ byQ G bi z9) e4.symm) ?_
    refine J_aload_n hC dX10_appendInput_53 0 rfl rfl ?_
    refine J_get (v := .ref (bi 0)) hC wu_X10 rfl dX10_appendInput_54 0 0 (by decide) wf_X10_10 rfl (by rw [← hb]; rfl) ?_
    refine J_iload hC dX10_appendInput_57 5 rfl ?_
    refine J_callVv hC dX10_appendInput_59 wl_X10_77 yi_X1_putFour (appr_v (oW G o R a S ec ep) (c_X1_putFour _ G bi q4 z5 (by omega))) rfl rfl 23 1 rfl rfl ⟨Nat.le_of_ble_eq_true rfl, Nat.le_of_ble_eq_true rfl⟩ (Nat.le_of_ble_eq_true rfl) (Nat.le_of_ble_eq_true rfl) (Nat.le_of_ble_eq_true rfl) (fun u4 h4 => ?_)
    obtain ⟨q5, e5⟩ : ∃ z9, z9 = b_four z5 q4 := ⟨_, rfl⟩
    have hq5 : q5.2 = q.2 + 20 := by rw [e5]; show q4.2 + 4 = _; omega
    refine J_wq (congrArg (fun z9 => oW G o R a S ec ep ++ byQ G bi z9) e5.symm) ?_
    refine J_aload_n hC dX10_appendInput_62 0 rfl rfl ?_
    refine J_get (v := .ref (bi 0)) hC wu_X10 rfl dX10_appendInput_63 0 0 (by decide) wf_X10_10 rfl (by rw [← hb]; rfl) ?_
    refine J_get (v := .int (nI q5.2)) hC wu_X1 rfl dX10_appendInput_66 23 1 (by decide) wf_X10_81 rfl rfl ?_
    exact J_iretT hC hR dX10_appendInput_69 rfl () ⟨c, by rw [hq5]⟩ (by rw [e5, e4, e3, e2, e1]; rfl) (Nat.le_of_ble_eq_true rfl) (Nat.le_of_ble_eq_true rfl)
  · refine J_if_ne (tgt := 20) hC dX10_appendInput_9 (by decide) (fun c9 => absurd rfl c9) (fun _ => ?_)
    exact J_throw0 hC hR.2 gf_ISE gf_names wk_X10_74 wi_IllegalStateException wsL_law_x0 gt_ISE gg_ISE dX10_appendInput_12 dX10_appendInput_15 dX10_appendInput_16 dX10_appendInput_19 (by decide) (by decide) (by decide) (by decide) () c rfl rfl (Nat.le_of_ble_eq_true rfl) (Nat.le_of_ble_eq_true rfl)

set_option maxRecDepth 100000 in
set_option maxHeartbeats 4000000 in
theorem c_X10_truncateInput (l : Launch) (G : gT) (o : Nat) (R a : Nat → Nat) (S : CT) (ec ep : Int32) (v : Int32) (bi : Nat → Nat) (q : RT × Nat) (hb : R 0 = bi 0) (hq : q.2 ≤ 600) (hst : l.stackTraces = false) : TI l yX10_truncateInput cX10_truncateInput 2 (some .int) { frames := 7, cells := 1, slots := 6, locals := 104 } [.ref o, .int v] G (oW G o R a S ec ep ++ byQ G bi q) (fun r9 (w : Nat) => w ≤ q.2 ∧ v = nI w ∧ r9 = nI w) (fun w => oW G o R a S ec ep ++ byQ G bi (q.1, w)) (fun (_ : Unit) => ¬ (¬ v < 0 ∧ ¬ nI q.2 < v)) (fun _ => eIAE) (fun _ => oW G o R a S ec ep ++ byQ G bi q) := by
  refine jt_i (own := RX10) hst (by decide) rfl (Nat.le_of_ble_eq_true rfl) (fun x hl hC hR hN => ?_)
  subst hl
  refine J_aload_n hC dX10_truncateInput_0 0 rfl rfl ?_
  refine J_iload_n hC dX10_truncateInput_1 1 rfl rfl ?_
  refine J_iconst (v := 0) hC dX10_truncateInput_2 rfl ?_
  refine J_aload_n hC dX10_truncateInput_3 0 rfl rfl ?_
  refine J_get (v := .ref (bi 0)) hC wu_X10 rfl dX10_truncateInput_4 0 0 (by decide) wf_X10_10 rfl (by rw [← hb]; rfl) ?_
  refine J_get (v := .int (nI q.2)) hC wu_X1 rfl dX10_truncateInput_7 23 1 (by decide) wf_X10_81 rfl rfl ?_
  refine J_callTv hC hR.2 dX10_truncateInput_10 wl_X10_84 yi_X10_requireRange (frt_v (wr := byQ G bi q) (c_X10_requireRange _ G o R a S ec ep v 0 (nI q.2) hst) (List.Perm.refl _) (fun _ => List.Perm.refl _) (fun _ => List.Perm.refl _)) rfl rfl 0 10 rfl rfl ⟨Nat.le_of_ble_eq_true rfl, Nat.le_of_ble_eq_true rfl⟩ (Nat.le_of_ble_eq_true rfl) (Nat.le_of_ble_eq_true rfl) (Nat.le_of_ble_eq_true rfl) (Nat.le_of_ble_eq_true rfl) (Nat.le_of_ble_eq_true rfl) (fun _ h9 => ⟨(), h9, rfl, rfl⟩) (fun u h => ?_)
  refine J_wq (show _ = oW G o R a S ec ep ++ byQ G bi q from rfl) ?_
  obtain ⟨w, hw, hv⟩ := rng_nat h (by omega)
  subst hv
  refine J_aload_n hC dX10_truncateInput_13 0 rfl rfl ?_
  refine J_get (v := .ref (bi 0)) hC wu_X10 rfl dX10_truncateInput_14 0 0 (by decide) wf_X10_10 rfl (by rw [← hb]; rfl) ?_
  refine J_iload_n hC dX10_truncateInput_17 1 rfl rfl ?_
  refine J_put (ws' := oW G o R a S ec ep ++ byQ G bi (q.1, w)) hC wu_X1 rfl tyX1_ok nmX1 dX10_truncateInput_18 23 1 (by decide) wf_X10_81 rfl rfl (Nat.le_of_ble_eq_true rfl) rfl rfl rfl ?_
  refine J_iload_n hC dX10_truncateInput_21 1 rfl rfl ?_
  exact J_iretT hC hR dX10_truncateInput_22 rfl w ⟨hw, rfl, rfl⟩ rfl (Nat.le_of_ble_eq_true rfl) (Nat.le_of_ble_eq_true rfl)

def s_find (S : CT) (nm : Int32) : Int32 := if s_num (S 0) nm (vcO S) = -1 then (if s_num (S 3) nm (fcO S) = -1 then -1 else 100 + s_num (S 3) nm (fcO S)) else s_num (S 0) nm (vcO S)

set_option maxRecDepth 100000 in
set_option maxHeartbeats 4000000 in
theorem c_X10_findName (l : Launch) (G : gT) (o : Nat) (R a : Nat → Nat) (S : CT) (ec ep : Int32) (bi : Nat → Nat) (q : RT × Nat) (hb : R 0 = bi 0) (hq : q.2 ≤ 600) (f : RT) (hf : ∀ j, j < q.2 → q.1 j &&& 255 = f j) (hI : CI S) : MI l yX10_findName cX10_findName 4 (some .int) { frames := 3, cells := 0, slots := 0, locals := 70 } [.ref o] G (oW G o R a S ec ep ++ byQ G bi q) (fun r9 (_ : Unit) => r9 = s_find S (b_nm f q.2 0 q.2)) (fun _ => oW G o R a S ec ep ++ byQ G bi q) := by
  refine jm_i (own := RX10) (by decide) rfl (Nat.le_of_ble_eq_true rfl) (fun x hl hC hR hN => ?_)
  subst hl
  refine J_aload_n hC dX10_findName_0 0 rfl rfl ?_
  refine J_get (v := .ref (bi 0)) hC wu_X10 rfl dX10_findName_1 0 0 (by decide) wf_X10_10 rfl (by rw [← hb]; rfl) ?_
  refine J_iconst (v := nI 0) hC dX10_findName_4 rfl ?_
  refine J_aload_n hC dX10_findName_5 0 rfl rfl ?_
  refine J_get (v := .ref (bi 0)) hC wu_X10 rfl dX10_findName_6 0 0 (by decide) wf_X10_10 rfl (by rw [← hb]; rfl) ?_
  refine J_get (v := .int (nI q.2)) hC wu_X1 rfl dX10_findName_9 23 1 (by decide) wf_X10_81 rfl rfl ?_
  refine J_callVi hC dX10_findName_12 wl_X10_130 yi_X1_nameBetween (appr_i (oW G o R a S ec ep) (c_X1_nameBetween _ G bi q f 0 q.2 hf hq (Nat.zero_le _) hq)) rfl rfl 23 1 rfl rfl ⟨Nat.le_of_ble_eq_true rfl, Nat.le_of_ble_eq_true rfl⟩ (Nat.le_of_ble_eq_true rfl) (Nat.le_of_ble_eq_true rfl) (Nat.le_of_ble_eq_true rfl) (fun r9 u9 h9 => ?_)
  refine J_wq (show _ = oW G o R a S ec ep ++ byQ G bi q from rfl) ?_
  subst h9
  obtain ⟨nm, en⟩ : ∃ z9, z9 = (b_nm f q.2 0 q.2) := ⟨_, rfl⟩
  refine J_topi en.symm ?_
  rw [← en] at hR
  refine J_istore_n hC [(1, .int nm), (0, .ref o)] dX10_findName_15 rfl (by decide) rfl ?_
  refine J_aload_n hC dX10_findName_16 1 rfl rfl ?_
  refine J_get (v := .ref (a 0)) hC wu_X10 rfl dX10_findName_17 0 2 (by decide) wf_X10_22 rfl rfl ?_
  refine J_get (v := .ref (a 1)) hC wu_X8 rfl dX10_findName_20 1 0 (by decide) wf_X10_99 rfl rfl ?_
  refine J_iload_n hC dX10_findName_23 0 rfl rfl ?_
  refine J_callVi hC dX10_findName_24 wl_X10_134 yi_X9_numberOf (app_i (byQ G bi q) (cons_i (c_X9_numberOf _ G a S (vcO S) nm hI.2.1.1 hI.2.1.2))) rfl rfl 2 9 rfl rfl ⟨Nat.le_of_ble_eq_true rfl, Nat.le_of_ble_eq_true rfl⟩ (Nat.le_of_ble_eq_true rfl) (Nat.le_of_ble_eq_true rfl) (Nat.le_of_ble_eq_true rfl) (fun r9 u9 h9 => ?_)
  refine J_wq (show _ = oW G o R a S ec ep ++ byQ G bi q from rfl) ?_
  subst h9
  refine J_istore_n hC [(2, .int (s_num (S 0) nm (vcO S))), (1, .int nm), (0, .ref o)] dX10_findName_27 rfl (by decide) rfl ?_
  refine J_iload_n hC dX10_findName_28 0 rfl rfl ?_
  refine J_iconst (v := -1) hC dX10_findName_29 rfl ?_
  refine J_ic_eq (tgt := 35) hC dX10_findName_30 (by decide) (fun c => ?_) (fun c => ?_)
  · refine J_aload_n hC dX10_findName_35 2 rfl rfl ?_
    refine J_get (v := .ref (a 0)) hC wu_X10 rfl dX10_findName_36 0 2 (by decide) wf_X10_22 rfl rfl ?_
    refine J_get (v := .ref (a 5)) hC wu_X8 rfl dX10_findName_39 1 1 (by decide) wf_X10_123 rfl rfl ?_
    refine J_iload_n hC dX10_findName_42 1 rfl rfl ?_
    refine J_callVi hC dX10_findName_43 wl_X10_138 yi_X2_numberOf (app_i (byQ G bi q) (cons_i (c_X2_numberOf _ G a S (fcO S) nm hI.2.2.1.1 hI.2.2.1.2))) rfl rfl 6 2 rfl rfl ⟨Nat.le_of_ble_eq_true rfl, Nat.le_of_ble_eq_true rfl⟩ (Nat.le_of_ble_eq_true rfl) (Nat.le_of_ble_eq_true rfl) (Nat.le_of_ble_eq_true rfl) (fun r9 u9 h9 => ?_)
    refine J_wq (show _ = oW G o R a S ec ep ++ byQ G bi q from rfl) ?_
    subst h9
    refine J_istore_n hC [(3, .int (s_num (S 3) nm (fcO S))), (2, .int (s_num (S 0) nm (vcO S))), (1, .int nm), (0, .ref o)] dX10_findName_46 rfl (by decide) rfl ?_
    refine J_iload_n hC dX10_findName_47 0 rfl rfl ?_
    refine J_iconst (v := -1) hC dX10_findName_48 rfl ?_
    refine J_ic_ne (tgt := 56) hC dX10_findName_49 (by decide) (fun c2 => ?_) (fun c2 => ?_)
    · refine J_bipush (v := 100) hC dX10_findName_56 rfl ?_
      refine J_iload_n hC dX10_findName_58 0 rfl rfl ?_
      refine J_iadd (v := 100 + s_num (S 3) nm (fcO S)) hC dX10_findName_59 rfl ?_
      exact J_iret hC hR dX10_findName_60 rfl () (by rw [s_find, if_pos c, if_neg c2]) rfl (by decide) (by decide)
    · refine J_iconst (v := -1) hC dX10_findName_52 rfl ?_
      refine J_goto (tgt := 60) hC dX10_findName_53 (by decide) ?_
      exact J_iret hC hR dX10_findName_60 rfl () (by rw [s_find, if_pos c, if_pos c2]) rfl (by decide) (by decide)
  · refine J_iload_n hC dX10_findName_33 0 rfl rfl ?_
    exact J_iret hC hR dX10_findName_34 rfl () (by rw [s_find, if_neg c]) rfl (by decide) (by decide)

set_option maxRecDepth 100000 in
set_option maxHeartbeats 4000000 in
theorem c_X10_outputByte (l : Launch) (G : gT) (o : Nat) (R a : Nat → Nat) (S : CT) (ec ep : Int32) (v : Int32) (bo : Nat → Nat) (q : RT × Nat) (hb : R 1 = bo 0) (hq : q.2 ≤ 600) (hst : l.stackTraces = false) : TI l yX10_outputByte cX10_outputByte 2 (some .int) { frames := 7, cells := 1, slots := 6, locals := 110 } [.ref o, .int v] G (oW G o R a S ec ep ++ byQ G bo q) (fun r9 (w : Nat) => w < q.2 ∧ v = nI w ∧ r9 = q.1 w &&& 255) (fun _ => oW G o R a S ec ep ++ byQ G bo q) (fun (_ : Unit) => ¬ (¬ v < 0 ∧ ¬ nI q.2 - 1 < v)) (fun _ => eNSE) (fun _ => oW G o R a S ec ep ++ byQ G bo q) := by
  refine jt_i (own := RX10) hst (by decide) rfl (Nat.le_of_ble_eq_true rfl) (fun x hl hC hR hN => ?_)
  subst hl
  refine J_iload_n hC dX10_outputByte_0 1 rfl rfl ?_
  refine J_iconst (v := 0) hC dX10_outputByte_1 rfl ?_
  refine J_aload_n hC dX10_outputByte_2 0 rfl rfl ?_
  refine J_get (v := .ref (bo 0)) hC wu_X10 rfl dX10_outputByte_3 0 1 (by decide) wf_X10_16 rfl (by rw [← hb]; rfl) ?_
  refine J_get (v := .int (nI q.2)) hC wu_X1 rfl dX10_outputByte_6 23 1 (by decide) wf_X10_81 rfl rfl ?_
  refine J_iconst (v := 1) hC dX10_outputByte_9 rfl ?_
  refine J_isub (v := nI q.2 - 1) hC dX10_outputByte_10 rfl ?_
  refine J_callSi hC dX10_outputByte_11 wl_X10_201 wi_X10 yi_X10_isBetween (c_X10_isBetween _ G (oW G o R a S ec ep ++ byQ G bo q) v 0 (nI q.2 - 1)) rfl rfl ⟨Nat.le_of_ble_eq_true rfl, Nat.le_of_ble_eq_true rfl⟩ (Nat.le_of_ble_eq_true rfl) (Nat.le_of_ble_eq_true rfl) (Nat.le_of_ble_eq_true rfl) (fun r9 u9 h9 => ?_)
  refine J_wq (show _ = oW G o R a S ec ep ++ byQ G bo q from rfl) ?_
  rcases h9 with ⟨rfl, c⟩ | ⟨rfl, c⟩
  · refine J_if_ne (tgt := 25) hC dX10_outputByte_14 (by decide) (fun _ => ?_) (fun c9 => absurd c9 (by decide))
    obtain ⟨w, hw, hv⟩ := betw_nat (by omega) c
    subst hv
    refine J_aload_n hC dX10_outputByte_25 0 rfl rfl ?_
    refine J_get (v := .ref (bo 0)) hC wu_X10 rfl dX10_outputByte_26 0 1 (by decide) wf_X10_16 rfl (by rw [← hb]; rfl) ?_
    refine J_iload_n hC dX10_outputByte_29 1 rfl rfl ?_
    refine J_callVi hC dX10_outputByte_30 wl_X10_309 yi_X1_at (appr_i (oW G o R a S ec ep) (c_X1_at _ G bo q (fun j => q.1 j &&& 255) w (fun _ _ => rfl) hq (by omega))) rfl rfl 23 1 rfl rfl ⟨Nat.le_of_ble_eq_true rfl, Nat.le_of_ble_eq_true rfl⟩ (Nat.le_of_ble_eq_true rfl) (Nat.le_of_ble_eq_true rfl) (Nat.le_of_ble_eq_true rfl) (fun r9 u9 h9 => ?_)
    refine J_wq (show _ = oW G o R a S ec ep ++ byQ G bo q from rfl) ?_
    exact J_iretT hC hR dX10_outputByte_33 rfl w ⟨hw, rfl, by rw [h9, q_at, if_pos hw]⟩ rfl (Nat.le_of_ble_eq_true rfl) (Nat.le_of_ble_eq_true rfl)
  · refine J_if_ne (tgt := 25) hC dX10_outputByte_14 (by decide) (fun c9 => absurd rfl c9) (fun _ => ?_)
    exact J_throw0 hC hR.2 gf_NSE gf_names wk_X10_205 wi_NoSuchElementException wsL_law_x3 gt_NSE gg_NSE dX10_outputByte_17 dX10_outputByte_20 dX10_outputByte_21 dX10_outputByte_24 (by decide) (by decide) (by decide) (by decide) () c rfl rfl (Nat.le_of_ble_eq_true rfl) (Nat.le_of_ble_eq_true rfl)

/-- writePage's loop: the bytes of the forecasts of a page -/
def b_wp (S : CT) (s : Nat) (i : Nat) (q : RT × Nat) : RT × Nat := b_fc S i (S 10 i).toNatClampNeg (S 11 i).toNatClampNeg (if s < i then w_put 32 q else q)
def b_page (S : CT) (w : Nat) (q : RT × Nat) : RT × Nat := fo (b_wp S (4 * w)) (4 * w) (min (bcO S) (4 * w + 4) - 4 * w) q
theorem b_fc_le (S : CT) (i vi dy : Nat) (q : RT × Nat) : (b_fc S i vi dy q).2 ≤ q.2 + 15 := by
  have h1 := b_nam_le (S 0 vi) q
  have h2 := w_dec_le dy (b_nam (S 0 vi) q)
  show (b_dec dy (b_nam (S 0 vi) q)).2 + 1 ≤ _
  have h3 : (b_dec dy (b_nam (S 0 vi) q)).2 ≤ (b_nam (S 0 vi) q).2 + 10 := h2
  omega
/-- the book's rows are villages and days -/
def BK (S : CT) : Prop := ∀ i, i < bcO S → (∃ vi, vi < 6 ∧ S 10 i = nI vi) ∧ ∃ dy, dy ≤ 1000000000 ∧ S 11 i = nI dy

set_option maxRecDepth 100000 in
set_option maxHeartbeats 4000000 in
theorem c_X10_writePage (l : Launch) (G : gT) (o : Nat) (R a : Nat → Nat) (S : CT) (ec ep : Int32) (v : Int32) (bo : Nat → Nat) (q : RT × Nat) (hb : R 1 = bo 0) (hq : q.2 ≤ 600) (hI : CI S) (hB : BK S) (hst : l.stackTraces = false) : TI l yX10_writePage cX10_writePage 5 (some .int) { frames := 7, cells := 1, slots := 6, locals := 104 } [.ref o, .int v] G (oW G o R a S ec ep ++ byQ G bo q) (fun r9 (w : Nat) => (4 * w < bcO S ∧ v = nI w) ∧ r9 = nI (b_page S w (q.1, 0)).2) (fun w => oW G o R a S ec ep ++ byQ G bo (b_page S w (q.1, 0))) (fun (_ : Unit) => ¬ (¬ v < 0 ∧ v < nI ((bcO S + 4 - 1) / 4))) (fun _ => eNSE) (fun _ => oW G o R a S ec ep ++ byQ G bo q) := by
  refine jt_i (own := RX10) hst (by decide) rfl (Nat.le_of_ble_eq_true rfl) (fun x hl hC hR hN => ?_)
  subst hl
  refine J_aload_n hC dX10_writePage_0 0 rfl rfl ?_
  refine J_iload_n hC dX10_writePage_1 1 rfl rfl ?_
  refine J_callTv hC hR.2 dX10_writePage_2 wl_X10_214 yi_X10_requirePage (frt_v (wr := byQ G bo q) (c_X10_requirePage _ G o R a S ec ep v hI hst) (List.Perm.refl _) (fun _ => List.Perm.refl _) (fun _ => List.Perm.refl _)) rfl rfl 0 10 rfl rfl ⟨Nat.le_of_ble_eq_true rfl, Nat.le_of_ble_eq_true rfl⟩ (Nat.le_of_ble_eq_true rfl) (Nat.le_of_ble_eq_true rfl) (Nat.le_of_ble_eq_true rfl) (Nat.le_of_ble_eq_true rfl) (Nat.le_of_ble_eq_true rfl) (fun _ h9 => ⟨(), h9, rfl, rfl⟩) (fun u hv0 => ?_)
  refine J_wq (show _ = oW G o R a S ec ep ++ byQ G bo q from rfl) ?_
  have hbc := hI.1.2
  obtain ⟨w, hw, hv⟩ := has_nat hv0 (by omega)
  subst hv
  have hw4 : 4 * w < bcO S := by omega
  refine J_aload_n hC dX10_writePage_5 0 rfl rfl ?_
  refine J_get (v := .ref (bo 0)) hC wu_X10 rfl dX10_writePage_6 0 1 (by decide) wf_X10_16 rfl (by rw [← hb]; rfl) ?_
  refine J_iconst (v := nI 0) hC dX10_writePage_9 rfl ?_
  refine J_put (ws' := oW G o R a S ec ep ++ byQ G bo (q.1, 0)) hC wu_X1 rfl tyX1_ok nmX1 dX10_writePage_10 23 1 (by decide) wf_X10_81 rfl rfl (Nat.le_of_ble_eq_true rfl) rfl rfl rfl ?_
  refine J_aload_n hC dX10_writePage_13 0 rfl rfl ?_
  refine J_get (v := .ref (a 0)) hC wu_X10 rfl dX10_writePage_14 0 2 (by decide) wf_X10_22 rfl rfl ?_
  refine J_get (v := .ref (a 14)) hC wu_X8 rfl dX10_writePage_17 1 3 (by decide) wf_X10_149 rfl rfl ?_
  refine J_iload_n hC dX10_writePage_20 1 rfl rfl ?_
  refine J_callVi hC dX10_writePage_21 wl_X10_297 yi_X0_startOf (app_i (byQ G bo (q.1, 0)) (cons_i (c_X0_startOf _ G a S w))) rfl rfl 15 0 rfl rfl ⟨Nat.le_of_ble_eq_true rfl, Nat.le_of_ble_eq_true rfl⟩ (Nat.le_of_ble_eq_true rfl) (Nat.le_of_ble_eq_true rfl) (Nat.le_of_ble_eq_true rfl) (fun r9 u9 h9 => ?_)
  refine J_wq (show _ = oW G o R a S ec ep ++ byQ G bo (q.1, 0) from rfl) ?_
  subst h9
  refine J_istore_n hC [(2, .int (nI (4 * w))), (0, .ref o), (1, .int (nI w))] dX10_writePage_24 rfl (by decide) rfl ?_
  refine J_aload_n hC dX10_writePage_25 1 rfl rfl ?_
  refine J_get (v := .ref (a 0)) hC wu_X10 rfl dX10_writePage_26 0 2 (by decide) wf_X10_22 rfl rfl ?_
  refine J_get (v := .ref (a 14)) hC wu_X8 rfl dX10_writePage_29 1 3 (by decide) wf_X10_149 rfl rfl ?_
  refine J_iload_n hC dX10_writePage_32 2 rfl rfl ?_
  refine J_callVi hC dX10_writePage_33 wl_X10_300 yi_X0_endOf (app_i (byQ G bo (q.1, 0)) (cons_i (c_X0_endOf _ G a S (bcO S) w hI.1.1 hbc (by omega)))) rfl rfl 15 0 rfl rfl ⟨Nat.le_of_ble_eq_true rfl, Nat.le_of_ble_eq_true rfl⟩ (Nat.le_of_ble_eq_true rfl) (Nat.le_of_ble_eq_true rfl) (Nat.le_of_ble_eq_true rfl) (fun r9 u9 h9 => ?_)
  refine J_wq (show _ = oW G o R a S ec ep ++ byQ G bo (q.1, 0) from rfl) ?_
  subst h9
  obtain ⟨e, he⟩ : ∃ z9, z9 = min (bcO S) (4 * w + 4) := ⟨_, rfl⟩
  obtain ⟨s, hs⟩ : ∃ z9, z9 = 4 * w := ⟨_, rfl⟩
  obtain ⟨tot, htot⟩ : ∃ z9, z9 = b_page S w (q.1, 0) := ⟨_, rfl⟩
  refine J_istore_n hC [(3, .int (nI (min (bcO S) (4 * w + 4)))), (2, .int (nI (4 * w))), (0, .ref o), (1, .int (nI w))] dX10_writePage_36 rfl (by decide) rfl ?_
  refine J_iload_n hC dX10_writePage_37 1 rfl rfl ?_
  refine J_istore hC [(4, .int (nI (4 * w))), (3, .int (nI (min (bcO S) (4 * w + 4)))), (2, .int (nI (4 * w))), (0, .ref o), (1, .int (nI w))] dX10_writePage_38 (by decide) rfl ?_
  rw [← he, ← hs]
  suffices hlp : ∀ (m i : Nat) (q1 : RT × Nat), i + m = e → s ≤ i → q1.2 ≤ 16 * (i - s) → fo (b_wp S s) i m q1 = tot → J x G (oW G o R a S ec ep ++ byQ G bo q1) 1 6 [(4, .int (nI i)), (3, .int (nI e)), (2, .int (nI s)), (0, .ref o), (1, .int (nI w))] [] 40 from hlp (e - s) s (q.1, 0) (by omega) (Nat.le_refl _) (Nat.zero_le _) (by rw [htot, b_page, ← he, ← hs])
  intro m
  induction m with
  | zero =>
    intro i q1 him hsi hq1 hfo
    refine J_iload hC dX10_writePage_40 0 rfl ?_
    refine J_iload_n hC dX10_writePage_42 1 rfl rfl ?_
    refine J_ic_geN (tgt := 73) hC dX10_writePage_43 (by decide) (by omega) (by omega) (fun c => ?_) (fun c => absurd c (by omega))
    have e9 : q1 = tot := hfo
    refine J_aload_n hC dX10_writePage_73 3 rfl rfl ?_
    refine J_get (v := .ref (bo 0)) hC wu_X10 rfl dX10_writePage_74 0 1 (by decide) wf_X10_16 rfl (by rw [← hb]; rfl) ?_
    refine J_get (v := .int (nI q1.2)) hC wu_X1 rfl dX10_writePage_77 23 1 (by decide) wf_X10_81 rfl rfl ?_
    exact J_iretT hC hR dX10_writePage_80 rfl w ⟨⟨hw4, rfl⟩, by rw [e9, htot]⟩ (by rw [e9, htot]) (Nat.le_of_ble_eq_true rfl) (Nat.le_of_ble_eq_true rfl)
  | succ m ih =>
    intro i q1 him hsi hq1 hfo
    refine J_iload hC dX10_writePage_40 0 rfl ?_
    refine J_iload_n hC dX10_writePage_42 1 rfl rfl ?_
    refine J_ic_geN (tgt := 73) hC dX10_writePage_43 (by decide) (by omega) (by omega) (fun c => absurd c (by omega)) (fun c => ?_)
    obtain ⟨⟨vi, hvi, evi⟩, dy, hdy, edy⟩ := hB i (by omega)
    have tvi : (S 10 i).toNatClampNeg = vi := by rw [evi]; exact nI_clamp (by omega)
    have tdy : (S 11 i).toNatClampNeg = dy := by rw [edy]; exact nI_clamp (by omega)
    have j_61 : ∀ q2 : RT × Nat, q2.2 ≤ 16 * (i - s) + 1 → q2 = (if s < i then w_put 32 q1 else q1) → J x G (oW G o R a S ec ep ++ byQ G bo q2) 1 6 [(4, .int (nI i)), (3, .int (nI e)), (2, .int (nI s)), (0, .ref o), (1, .int (nI w))] [] 61 := fun q2 hq2 eq2 => by
      refine J_aload_n hC dX10_writePage_61 3 rfl rfl ?_
      refine J_iload hC dX10_writePage_62 0 rfl ?_
      refine J_callVv hC dX10_writePage_64 wl_X10_306 yi_X10_writeForecast (c_X10_writeForecast _ G o R a bo S ec ep q2 i vi dy hb (by omega) evi hvi edy hdy (by omega)) rfl rfl 0 10 rfl rfl ⟨Nat.le_of_ble_eq_true rfl, Nat.le_of_ble_eq_true rfl⟩ (Nat.le_of_ble_eq_true rfl) (Nat.le_of_ble_eq_true rfl) (Nat.le_of_ble_eq_true rfl) (fun u8 h8 => ?_)
      obtain ⟨q3, e3⟩ : ∃ z9, z9 = b_fc S i vi dy q2 := ⟨_, rfl⟩
      have hq3 : q3.2 ≤ q2.2 + 15 := by rw [e3]; exact b_fc_le _ _ _ _ _
      refine J_wq (congrArg (fun z9 => oW G o R a S ec ep ++ byQ G bo z9) e3.symm) ?_
      refine J_iinc hC [(4, .int (nI (i + 1))), (3, .int (nI e)), (2, .int (nI s)), (0, .ref o), (1, .int (nI w))] dX10_writePage_67 0 rfl (nI_inc i) (by decide) rfl ?_
      refine J_goto (tgt := 40) hC dX10_writePage_70 (by decide) ?_
      exact ih (i + 1) q3 (by omega) (by omega) (by omega) (by rw [← hfo]; show fo _ _ _ q3 = fo _ _ _ (b_wp S s i q1); rw [b_wp, tvi, tdy, ← eq2, e3])
    refine J_iload hC dX10_writePage_46 0 rfl ?_
    refine J_iload_n hC dX10_writePage_48 2 rfl rfl ?_
    refine J_ic_leN (tgt := 61) hC dX10_writePage_49 (by decide) (by omega) (by omega) (fun c2 => ?_) (fun c2 => ?_)
    · exact j_61 q1 (by omega) (by rw [if_neg (by omega)])
    · refine J_aload_n hC dX10_writePage_52 3 rfl rfl ?_
      refine J_get (v := .ref (bo 0)) hC wu_X10 rfl dX10_writePage_53 0 1 (by decide) wf_X10_16 rfl (by rw [← hb]; rfl) ?_
      refine J_bipush (v := 32) hC dX10_writePage_56 rfl ?_
      refine J_callVv hC dX10_writePage_58 wl_X10_303 yi_X1_put (appr_v (oW G o R a S ec ep) (c_X1_put _ G bo q1 32 (by omega))) rfl rfl 23 1 rfl rfl ⟨Nat.le_of_ble_eq_true rfl, Nat.le_of_ble_eq_true rfl⟩ (Nat.le_of_ble_eq_true rfl) (Nat.le_of_ble_eq_true rfl) (Nat.le_of_ble_eq_true rfl) (fun u8 h8 => ?_)
      refine J_wq (show _ = oW G o R a S ec ep ++ byQ G bo (w_put 32 q1) from rfl) ?_
      exact j_61 (w_put 32 q1) (by show q1.2 + 1 ≤ _; omega) (by rw [if_pos c2])

def b_app (z1 z2 z3 z4 z5 : Int32) (q : RT × Nat) : RT × Nat := b_four z5 (b_four z4 (b_four z3 (b_four z2 (b_four z1 q))))
set_option maxRecDepth 100000 in
set_option maxHeartbeats 4000000 in
theorem c_X10_appendInput (l : Launch) (G : gT) (o : Nat) (R a : Nat → Nat) (S : CT) (ec ep : Int32) (z1 z2 z3 z4 z5 : Int32) (bi : Nat → Nat) (q : RT × Nat) (hb : R 0 = bi 0) (hq : q.2 ≤ 600) (hst : l.stackTraces = false) : TI l yX10_appendInput cX10_appendInput 6 (some .int) { frames := 6, cells := 1, slots := 6, locals := 90 } [.ref o, .int z1, .int z2, .int z3, .int z4, .int z5] G (oW G o R a S ec ep ++ byQ G bi q) (fun r9 (_ : Unit) => q.2 + 20 ≤ 600 ∧ r9 = nI (q.2 + 20)) (fun _ => oW G o R a S ec ep ++ byQ G bi (b_app z1 z2 z3 z4 z5 q)) (fun (_ : Unit) => ¬ q.2 + 20 ≤ 600) (fun _ => eISE) (fun _ => oW G o R a S ec ep ++ byQ G bi q) := by
  refine jt_i (own := RX10) hst (by decide) rfl (Nat.le_of_ble_eq_true rfl) (fun x hl hC hR hN => ?_)
  subst hl
  refine J_aload_n hC dX10_appendInput_0 0 rfl rfl ?_
  refine J_get (v := .ref (bi 0)) hC wu_X10 rfl dX10_appendInput_1 0 0 (by decide) wf_X10_10 rfl (by rw [← hb]; rfl) ?_
  refine J_bipush (v := nI 20) hC dX10_appendInput_4 rfl ?_
  refine J_callVi hC dX10_appendInput_6 wl_X10_70 yi_X1_hasRoomFor (appr_i (oW G o R a S ec ep) (c_X1_hasRoomFor _ G bi q 20 hq (by omega))) rfl rfl 23 1 rfl rfl ⟨Nat.le_of_ble_eq_true rfl, Nat.le_of_ble_eq_true rfl⟩ (Nat.le_of_ble_eq_true rfl) (Nat.le_of_ble_eq_true rfl) (Nat.le_of_ble_eq_true rfl) (fun r9 u9 h9 => ?_)
  refine J_wq (show _ = oW G o R a S ec ep ++ byQ G bi q from rfl) ?_
  rcases h9 with ⟨rfl, c⟩ | ⟨rfl, c⟩
  · refine J_if_ne (tgt := 20) hC dX10_appendInput_9 (by decide) (fun _ => ?_) (fun c9 => absurd c9 (by decide))
    refine J_aload_n hC dX10_appendInput_20 0 rfl rfl ?_
    refine J_get (v := .ref (bi 0)) hC wu_X10 rfl dX10_appendInput_21 0 0 (by decide) wf_X10_10 rfl (by rw [← hb]; rfl) ?_
    refine J_iload_n hC dX10_appendInput_24 1 rfl rfl ?_
    refine J_callVv hC dX10_appendInput_25 wl_X10_77 yi_X1_putFour (appr_v (oW G o R a S ec ep) (c_X1_putFour _ G bi q z1 (by omega))) rfl rfl 23 1 rfl rfl ⟨Nat.le_of_ble_eq_true rfl, Nat.le_of_ble_eq_true rfl⟩ (Nat.le_of_ble_eq_true rfl) (Nat.le_of_ble_eq_true rfl) (Nat.le_of_ble_eq_true rfl) (fun u0 h0 => ?_)
    obtain ⟨q1, e1⟩ : ∃ z9, z9 = b_four z1 q := ⟨_, rfl⟩
    have hq1 : q1.2 = q.2 + 4 := by rw [e1]; show q.2 + 4 = _; omega
    refine J_wq (congrArg (fun z9 => oW G o R a S ec ep ++ byQ G bi z9) e1.symm) ?_
    refine J_aload_n hC dX10_appendInput_28 0 rfl rfl ?_
    refine J_get (v := .ref (bi 0)) hC wu_X10 rfl dX10_appendInput_29 0 0 (by decide) wf_X10_10 rfl (by rw [← hb]; rfl) ?_
    refine J_iload_n hC dX10_appendInput_32 2 rfl rfl ?_
    refine J_callVv hC dX10_appendInput_33 wl_X10_77 yi_X1_putFour (appr_v (oW G o R a S ec ep) (c_X1_putFour _ G bi q1 z2 (by omega))) rfl rfl 23 1 rfl rfl ⟨Nat.le_of_ble_eq_true rfl, Nat.le_of_ble_eq_true rfl⟩ (Nat.le_of_ble_eq_true rfl) (Nat.le_of_ble_eq_true rfl) (Nat.le_of_ble_eq_true rfl) (fun u1 h1 => ?_)
    obtain ⟨q2, e2⟩ : ∃ z9, z9 = b_four z2 q1 := ⟨_, rfl⟩
    have hq2 : q2.2 = q.2 + 8 := by rw [e2]; show q1.2 + 4 = _; omega
    refine J_wq (congrArg (fun z9 => oW G o R a S ec ep ++ byQ G bi z9) e2.symm) ?_
    refine J_aload_n hC dX10_appendInput_36 0 rfl rfl ?_
    refine J_get (v := .ref (bi 0)) hC wu_X10 rfl dX10_appendInput_37 0 0 (by decide) wf_X10_10 rfl (by rw [← hb]; rfl) ?_
    refine J_iload_n hC dX10_appendInput_40 3 rfl rfl ?_
    refine J_callVv hC dX10_appendInput_41 wl_X10_77 yi_X1_putFour (appr_v (oW G o R a S ec ep) (c_X1_putFour _ G bi q2 z3 (by omega))) rfl rfl 23 1 rfl rfl ⟨Nat.le_of_ble_eq_true rfl, Nat.le_of_ble_eq_true rfl⟩ (Nat.le_of_ble_eq_true rfl) (Nat.le_of_ble_eq_true rfl) (Nat.le_of_ble_eq_true rfl) (fun u2 h2 => ?_)
    obtain ⟨q3, e3⟩ : ∃ z9, z9 = b_four z3 q2 := ⟨_, rfl⟩
    have hq3 : q3.2 = q.2 + 12 := by rw [e3]; show q2.2 + 4 = _; omega
    refine J_wq (congrArg (fun z9 => oW G o R a S ec ep ++ byQ G bi z9) e3.symm) ?_
    refine J_aload_n hC dX10_appendInput_44 0 rfl rfl ?_
    refine J_get (v := .ref (bi 0)) hC wu_X10 rfl dX10_appendInput_45 0 0 (by decide) wf_X10_10 rfl (by rw [← hb]; rfl) ?_
    refine J_iload hC dX10_appendInput_48 4 rfl ?_
    refine J_callVv hC dX10_appendInput_50 wl_X10_77 yi_X1_putFour (appr_v (oW G o R a S ec ep) (c_X1_putFour _ G bi q3 z4 (by omega))) rfl rfl 23 1 rfl rfl ⟨Nat.le_of_ble_eq_true rfl, Nat.le_of_ble_eq_true rfl⟩ (Nat.le_of_ble_eq_true rfl) (Nat.le_of_ble_eq_true rfl) (Nat.le_of_ble_eq_true rfl) (fun u3 h3 => ?_)
    obtain ⟨q4, e4⟩ : ∃ z9, z9 = b_four z4 q3 := ⟨_, rfl⟩
    have hq4 : q4.2 = q.2 + 16 := by rw [e4]; show q3.2 + 4 = _; omega
    refine J_wq (congrArg (fun z9 => oW G o R a S ec ep ++ byQ G bi z9) e4.symm) ?_
    refine J_aload_n hC dX10_appendInput_53 0 rfl rfl ?_
    refine J_get (v := .ref (bi 0)) hC wu_X10 rfl dX10_appendInput_54 0 0 (by decide) wf_X10_10 rfl (by rw [← hb]; rfl) ?_
    refine J_iload hC dX10_appendInput_57 5 rfl ?_
    refine J_callVv hC dX10_appendInput_59 wl_X10_77 yi_X1_putFour (appr_v (oW G o R a S ec ep) (c_X1_putFour _ G bi q4 z5 (by omega))) rfl rfl 23 1 rfl rfl ⟨Nat.le_of_ble_eq_true rfl, Nat.le_of_ble_eq_true rfl⟩ (Nat.le_of_ble_eq_true rfl) (Nat.le_of_ble_eq_true rfl) (Nat.le_of_ble_eq_true rfl) (fun u4 h4 => ?_)
    obtain ⟨q5, e5⟩ : ∃ z9, z9 = b_four z5 q4 := ⟨_, rfl⟩
    have hq5 : q5.2 = q.2 + 20 := by rw [e5]; show q4.2 + 4 = _; omega
    refine J_wq (congrArg (fun z9 => oW G o R a S ec ep ++ byQ G bi z9) e5.symm) ?_
    refine J_aload_n hC dX10_appendInput_62 0 rfl rfl ?_
    refine J_get (v := .ref (bi 0)) hC wu_X10 rfl dX10_appendInput_63 0 0 (by decide) wf_X10_10 rfl (by rw [← hb]; rfl) ?_
    refine J_get (v := .int (nI q5.2)) hC wu_X1 rfl dX10_appendInput_66 23 1 (by decide) wf_X10_81 rfl rfl ?_
    exact J_iretT hC hR dX10_appendInput_69 rfl () ⟨c, by rw [hq5]⟩ (by rw [e5, e4, e3, e2, e1]; rfl) (Nat.le_of_ble_eq_true rfl) (Nat.le_of_ble_eq_true rfl)
  · refine J_if_ne (tgt := 20) hC dX10_appendInput_9 (by decide) (fun c9 => absurd rfl c9) (fun _ => ?_)
    exact J_throw0 hC hR.2 gf_ISE gf_names wk_X10_74 wi_IllegalStateException wsL_law_x0 gt_ISE gg_ISE dX10_appendInput_12 dX10_appendInput_15 dX10_appendInput_16 dX10_appendInput_19 (by decide) (by decide) (by decide) (by decide) () c rfl rfl (Nat.le_of_ble_eq_true rfl) (Nat.le_of_ble_eq_true rfl)

set_option maxRecDepth 100000 in
set_option maxHeartbeats 4000000 in
theorem c_X10_truncateInput (l : Launch) (G : gT) (o : Nat) (R a : Nat → Nat) (S : CT) (ec ep : Int32) (v : Int32) (bi : Nat → Nat) (q : RT × Nat) (hb : R 0 = bi 0) (hq : q.2 ≤ 600) (hst : l.stackTraces = false) : TI l yX10_truncateInput cX10_truncateInput 2 (some .int) { frames := 7, cells := 1, slots := 6, locals := 104 } [.ref o, .int v] G (oW G o R a S ec ep ++ byQ G bi q) (fun r9 (w : Nat) => w ≤ q.2 ∧ v = nI w ∧ r9 = nI w) (fun w => oW G o R a S ec ep ++ byQ G bi (q.1, w)) (fun (_ : Unit) => ¬ (¬ v < 0 ∧ ¬ nI q.2 < v)) (fun _ => eIAE) (fun _ => oW G o R a S ec ep ++ byQ G bi q) := by
  refine jt_i (own := RX10) hst (by decide) rfl (Nat.le_of_ble_eq_true rfl) (fun x hl hC hR hN => ?_)
  subst hl
  refine J_aload_n hC dX10_truncateInput_0 0 rfl rfl ?_
  refine J_iload_n hC dX10_truncateInput_1 1 rfl rfl ?_
  refine J_iconst (v := 0) hC dX10_truncateInput_2 rfl ?_
  refine J_aload_n hC dX10_truncateInput_3 0 rfl rfl ?_
  refine J_get (v := .ref (bi 0)) hC wu_X10 rfl dX10_truncateInput_4 0 0 (by decide) wf_X10_10 rfl (by rw [← hb]; rfl) ?_
  refine J_get (v := .int (nI q.2)) hC wu_X1 rfl dX10_truncateInput_7 23 1 (by decide) wf_X10_81 rfl rfl ?_
  refine J_callTv hC hR.2 dX10_truncateInput_10 wl_X10_84 yi_X10_requireRange (frt_v (wr := byQ G bi q) (c_X10_requireRange _ G o R a S ec ep v 0 (nI q.2) hst) (List.Perm.refl _) (fun _ => List.Perm.refl _) (fun _ => List.Perm.refl _)) rfl rfl 0 10 rfl rfl ⟨Nat.le_of_ble_eq_true rfl, Nat.le_of_ble_eq_true rfl⟩ (Nat.le_of_ble_eq_true rfl) (Nat.le_of_ble_eq_true rfl) (Nat.le_of_ble_eq_true rfl) (Nat.le_of_ble_eq_true rfl) (Nat.le_of_ble_eq_true rfl) (fun _ h9 => ⟨(), h9, rfl, rfl⟩) (fun u h => ?_)
  refine J_wq (show _ = oW G o R a S ec ep ++ byQ G bi q from rfl) ?_
  obtain ⟨w, hw, hv⟩ := rng_nat h (by omega)
  subst hv
  refine J_aload_n hC dX10_truncateInput_13 0 rfl rfl ?_
  refine J_get (v := .ref (bi 0)) hC wu_X10 rfl dX10_truncateInput_14 0 0 (by decide) wf_X10_10 rfl (by rw [← hb]; rfl) ?_
  refine J_iload_n hC dX10_truncateInput_17 1 rfl rfl ?_
  refine J_put (ws' := oW G o R a S ec ep ++ byQ G bi (q.1, w)) hC wu_X1 rfl tyX1_ok nmX1 dX10_truncateInput_18 23 1 (by decide) wf_X10_81 rfl rfl (Nat.le_of_ble_eq_true rfl) rfl rfl rfl ?_
  refine J_iload_n hC dX10_truncateInput_21 1 rfl rfl ?_
  exact J_iretT hC hR dX10_truncateInput_22 rfl w ⟨hw, rfl, rfl⟩ rfl (Nat.le_of_ble_eq_true rfl) (Nat.le_of_ble_eq_true rfl)

def s_find (S : CT) (nm : Int32) : Int32 := if s_num (S 0) nm (vcO S) = -1 then (if s_num (S 3) nm (fcO S) = -1 then -1 else 100 + s_num (S 3) nm (fcO S)) else s_num (S 0) nm (vcO S)

/-- writePage's loop: the bytes of the forecasts of a page -/
def b_wp (S : CT) (s : Nat) (i : Nat) (q : RT × Nat) : RT × Nat := b_fc S i (S 10 i).toNatClampNeg (S 11 i).toNatClampNeg (if s < i then w_put 32 q else q)
def b_page (S : CT) (w : Nat) (q : RT × Nat) : RT × Nat := fo (b_wp S (4 * w)) (4 * w) (min (bcO S) (4 * w + 4) - 4 * w) q
theorem b_fc_le (S : CT) (i vi dy : Nat) (q : RT × Nat) : (b_fc S i vi dy q).2 ≤ q.2 + 15 := by
  have h1 := b_nam_le (S 0 vi) q
  have h2 := w_dec_le dy (b_nam (S 0 vi) q)
  show (b_dec dy (b_nam (S 0 vi) q)).2 + 1 ≤ _
  have h3 : (b_dec dy (b_nam (S 0 vi) q)).2 ≤ (b_nam (S 0 vi) q).2 + 10 := h2
  omega
/-- the book's rows are villages and days -/
def BK (S : CT) : Prop := ∀ i, i < bcO S → (∃ vi, vi < 6 ∧ S 10 i = nI vi) ∧ ∃ dy, dy ≤ 1000000000 ∧ S 11 i = nI dy


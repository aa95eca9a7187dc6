set_option maxRecDepth 100000 in
set_option maxHeartbeats 4000000 in
theorem c_X11_check (l : Launch) (G : gT) (m : Nat → Nat) (il : Nat) (M : CT) (t : PS RT) (wr w : Int32) (hil : M 8 3 = nI il) (bil : il ≤ 600) (hfi : ∀ j, j < il → ¬ M 6 j = -1) (ht : t.2.1 ≤ il) : MI l yX11_check cX11_check 3 (some .boolean) { frames := 0, cells := 0, slots := 0, locals := 0 } [.ref (m 0), .int wr, .int w] G (mdW G m (pX M il t)) (fun _ (_ : Unit) => True) (fun _ => mdW G m (pX M il (p_chk (M 6) il (¬ wr = 0) w t))) := by
  refine jm_i (own := RX11) (by decide) rfl (Nat.le_of_ble_eq_true rfl) (fun x hl hC hR hN => ?_)
  subst hl
  refine J_aload_n hC dX11_check_0 0 rfl rfl ?_
  refine J_get (v := .int t.2.2.1) hC wu_X11 rfl dX11_check_1 0 16 (by decide) wf_X11_153 rfl rfl ?_
  refine J_if_ne (tgt := 24) hC dX11_check_4 (by decide) (fun (c_4 : ¬ t.2.2.1 = 0) => ?_) (fun (c_4 : t.2.2.1 = 0) => ?_)
  · refine J_aload_n hC dX11_check_24 0 rfl rfl ?_
    refine J_get (v := .int t.2.2.1) hC wu_X11 rfl dX11_check_25 0 16 (by decide) wf_X11_153 rfl rfl ?_
    refine J_if_ne (tgt := 35) hC dX11_check_28 (by decide) (fun (c_28 : ¬ t.2.2.1 = 0) => ?_) (fun (c_28 : t.2.2.1 = 0) => ?_)
    · refine J_iconst (v := 0) hC dX11_check_35 rfl ?_
      refine J_iret hC hR dX11_check_36 rfl () ?_ ?_ (by decide) (by decide)
      · trivial
      · exact congrArg (fun z => mdW G m (pX M il z)) (p_chk_z c_4).symm
    · refine J_iconst (v := 1) hC dX11_check_31 rfl ?_
      refine J_goto (tgt := 36) hC dX11_check_32 (by decide) ?_
      refine J_iret hC hR dX11_check_36 rfl () ?_ ?_ (by decide) (by decide)
      · trivial
      · exact congrArg (fun z => mdW G m (pX M il z)) (p_chk_z c_4).symm
  · refine J_iload_n hC dX11_check_7 1 rfl rfl ?_
    refine J_if_ne (tgt := 24) hC dX11_check_8 (by decide) (fun (c_8 : ¬ wr = 0) => ?_) (fun (c_8 : wr = 0) => ?_)
    · refine J_aload_n hC dX11_check_24 0 rfl rfl ?_
      refine J_get (v := .int t.2.2.1) hC wu_X11 rfl dX11_check_25 0 16 (by decide) wf_X11_153 rfl rfl ?_
      refine J_if_ne (tgt := 35) hC dX11_check_28 (by decide) (fun (c_28 : ¬ t.2.2.1 = 0) => ?_) (fun (c_28 : t.2.2.1 = 0) => ?_)
      · refine J_iconst (v := 0) hC dX11_check_35 rfl ?_
        refine J_iret hC hR dX11_check_36 rfl () ?_ ?_ (by decide) (by decide)
        · trivial
        · exact congrArg (fun z => mdW G m (pX M il z)) (p_chk_t c_8).symm
      · refine J_iconst (v := 1) hC dX11_check_31 rfl ?_
        refine J_goto (tgt := 36) hC dX11_check_32 (by decide) ?_
        refine J_iret hC hR dX11_check_36 rfl () ?_ ?_ (by decide) (by decide)
        · trivial
        · exact congrArg (fun z => mdW G m (pX M il z)) (p_chk_t c_8).symm
    · refine J_aload_n hC dX11_check_11 0 rfl rfl ?_
      refine J_iload_n hC dX11_check_12 2 rfl rfl ?_
      refine J_put (ws' := mdW G m (pW M t.1 (tE (M 6) il t.2.1) (tS (M 6) il t.2.1) (tK (M 6) il t.2.1) (tV (M 6) il t.2.1) (tL (M 6) il t.2.1) w t.2.2.2)) hC wu_X11 rfl tyX11_ok nmX11 dX11_check_13 0 16 (by decide) wf_X11_153 rfl rfl (Nat.le_of_ble_eq_true rfl) rfl rfl rfl ?_
      refine J_aload_n hC dX11_check_16 0 rfl rfl ?_
      refine J_aload_n hC dX11_check_17 0 rfl rfl ?_
      refine J_get (v := .int (nI (tS (M 6) il t.2.1))) hC wu_X11 rfl dX11_check_18 0 12 (by decide) wf_X11_165 rfl rfl ?_
      refine J_put (ws' := mdW G m (pW M t.1 (tE (M 6) il t.2.1) (tS (M 6) il t.2.1) (tK (M 6) il t.2.1) (tV (M 6) il t.2.1) (tL (M 6) il t.2.1) w (nI (tS (M 6) il t.2.1)))) hC wu_X11 rfl tyX11_ok nmX11 dX11_check_21 0 17 (by decide) wf_X11_32 rfl rfl (Nat.le_of_ble_eq_true rfl) rfl rfl rfl ?_
      refine J_aload_n hC dX11_check_24 0 rfl rfl ?_
      refine J_get (v := .int w) hC wu_X11 rfl dX11_check_25 0 16 (by decide) wf_X11_153 rfl rfl ?_
      refine J_if_ne (tgt := 35) hC dX11_check_28 (by decide) (fun (c_28 : ¬ w = 0) => ?_) (fun (c_28 : w = 0) => ?_)
      · refine J_iconst (v := 0) hC dX11_check_35 rfl ?_
        refine J_iret hC hR dX11_check_36 rfl () ?_ ?_ (by decide) (by decide)
        · trivial
        · exact congrArg (fun z => mdW G m (pX M il z)) (p_chk_f c_4 (fun h => h c_8)).symm
      · refine J_iconst (v := 1) hC dX11_check_31 rfl ?_
        refine J_goto (tgt := 36) hC dX11_check_32 (by decide) ?_
        refine J_iret hC hR dX11_check_36 rfl () ?_ ?_ (by decide) (by decide)
        · trivial
        · exact congrArg (fun z => mdW G m (pX M il z)) (p_chk_f c_4 (fun h => h c_8)).symm

theorem pX_set (M : CT) (il : Nat) (g : RT) (t : PS RT) : pX M il (g, t.2) = pW M g (tE (M 6) il t.2.1) (tS (M 6) il t.2.1) (tK (M 6) il t.2.1) (tV (M 6) il t.2.1) (tL (M 6) il t.2.1) t.2.2.1 t.2.2.2 := rfl
theorem pX_set2 (M : CT) (il : Nat) (g : RT) (c : Int32) (t : PS RT) : pX M il (g, t.2.1, c, t.2.2.2) = pW M g (tE (M 6) il t.2.1) (tS (M 6) il t.2.1) (tK (M 6) il t.2.1) (tV (M 6) il t.2.1) (tL (M 6) il t.2.1) c t.2.2.2 := rfl
theorem mdw_ur (G : gT) (m : Nat → Nat) (M : CT) (il : Nat) (t : PS RT) (F : RT) : mdW G m (ur (pX M il t) 1 F) = mdW G m (pX M il (F, t.2)) := rfl
theorem p_chk_ite {α : Type} {f : RT} {il : Nat} (P : Prop) [Decidable P] (w : Int32) (t : PS α) : p_chk f il (¬ (if P then (1 : Int32) else 0) = 0) w t = p_chk f il P w t := by
  by_cases h : P
  · rw [p_chk_t h, p_chk_t (by rw [if_pos h]; decide)]
  · by_cases hc : t.2.2.1 = 0
    · rw [p_chk_f hc h, p_chk_f hc (by rw [if_neg h]; decide)]
    · rw [p_chk_z hc, p_chk_z hc]
theorem p_chk_iteo {α : Type} {f : RT} {il : Nat} (P : Prop) [Decidable P] (w : Int32) (t : PS α) : p_chk f il (¬ (if (¬ t.2.2.1 = 0 ∨ P) then (1 : Int32) else 0) = 0) w t = p_chk f il P w t := by
  by_cases hc : t.2.2.1 = 0
  · rw [p_chk_ite]
    by_cases h : P
    · rw [p_chk_t h, p_chk_t (Or.inr h)]
    · rw [p_chk_f hc h, p_chk_f hc (fun q => q.elim (fun z => z hc) h)]
  · rw [p_chk_z hc, p_chk_z hc]
theorem p_chk_0 {α : Type} {f : RT} {il : Nat} (w : Int32) (t : PS α) : p_chk f il (¬ (0 : Int32) = 0) w t = p_chk f il False w t := by
  by_cases hc : t.2.2.1 = 0
  · rw [p_chk_f hc (by decide), p_chk_f hc id]
  · rw [p_chk_z hc, p_chk_z hc]

set_option maxRecDepth 100000 in
set_option maxHeartbeats 4000000 in
theorem c_X11_next (l : Launch) (G : gT) (m : Nat → Nat) (il : Nat) (M : CT) (t : PS RT) (hil : M 8 3 = nI il) (bil : il ≤ 600) (hfi : ∀ j, j < il → ¬ M 6 j = -1) (ht : t.2.1 ≤ il) : MV l yX11_next cX11_next 1 { frames := 3, cells := 0, slots := 0, locals := 63 } [.ref (m 0)] G (mdW G m (pX M il t)) (fun (_ : Unit) => True) (fun _ => mdW G m (pX M il (p_nxt (M 6) il t))) := by
  refine jm_v (own := RX11) (by decide) rfl (Nat.le_of_ble_eq_true rfl) (fun x hl hC hR hN => ?_)
  subst hl
  have hb0 := tok_b (M 6) ht bil
  refine J_aload_n hC dX11_next_0 0 rfl rfl ?_
  refine J_get (v := .int t.2.2.1) hC wu_X11 rfl dX11_next_1 0 16 (by decide) wf_X11_153 rfl rfl ?_
  refine J_if_ne (tgt := 11) hC dX11_next_4 (by decide) (fun (c_4 : ¬ t.2.2.1 = 0) => ?_) (fun (c_4 : t.2.2.1 = 0) => ?_)
  · refine J_vret hC hR dX11_next_11 () ?_ ?_ (by decide) (by decide)
    · trivial
    · exact congrArg (fun z => mdW G m (pX M il z)) (p_nxt_z c_4).symm
  · refine J_aload_n hC dX11_next_7 0 rfl rfl ?_
    refine J_callVv hC dX11_next_8 wl_X11_182 yi_X11_advance (c_X11_advance _ G m il M t.1 (tE (M 6) il t.2.1) (tS (M 6) il t.2.1) (tK (M 6) il t.2.1) (tV (M 6) il t.2.1) (tL (M 6) il t.2.1) t.2.2.1 t.2.2.2 hil bil (tE_le (M 6) il _ ht).2 hfi) rfl rfl 0 11 rfl rfl ⟨Nat.le_of_ble_eq_true rfl, Nat.le_of_ble_eq_true rfl⟩ (Nat.le_of_ble_eq_true rfl) (Nat.le_of_ble_eq_true rfl) (Nat.le_of_ble_eq_true rfl) (fun _ _ => ?_)
    refine J_wq (show _ = mdW G m (pX M il (p_nxt (M 6) il t)) from by rw [p_nxt_pos c_4]; rfl) ?_
    refine J_vret hC hR dX11_next_11 () ?_ ?_ (by decide) (by decide)
    · trivial
    · rfl

set_option maxRecDepth 100000 in
set_option maxHeartbeats 4000000 in
theorem c_X11_look (l : Launch) (G : gT) (m : Nat → Nat) (il : Nat) (M : CT) (t : PS RT) (lo : Int32) (hi : Int32) (hil : M 8 3 = nI il) (bil : il ≤ 600) (hfi : ∀ j, j < il → ¬ M 6 j = -1) (ht : t.2.1 ≤ il) : MI l yX11_look cX11_look 3 (some .int) { frames := 1, cells := 0, slots := 0, locals := 22 } [.ref (m 0), .int lo, .int hi] G (mdW G m (pX M il t)) (fun r (_ : Unit) => r = p_lkV (M 6) il lo hi t) (fun _ => mdW G m (pX M il (p_lk (M 6) il lo hi t))) := by
  refine jm_i (own := RX11) (by decide) rfl (Nat.le_of_ble_eq_true rfl) (fun x hl hC hR hN => ?_)
  subst hl
  have hb0 := tok_b (M 6) ht bil
  refine J_aload_n hC dX11_look_0 0 rfl rfl ?_
  have j_14 : J x G (mdW G m (pX M il t)) 0 0 [(0, .ref (m 0)), (1, .int lo), (2, .int hi)] [.int (if tK (M 6) il t.2.1 = 2 then 1 else 0), .ref (m 0)] 14 := by
    refine J_iconst (v := 1) hC dX11_look_14 rfl ?_
    refine J_callVi hC dX11_look_15 wl_X11_185 yi_X11_check (c_X11_check _ G m il M t (if tK (M 6) il t.2.1 = 2 then 1 else 0) 1 hil bil hfi ht) rfl rfl 0 11 rfl rfl ⟨Nat.le_of_ble_eq_true rfl, Nat.le_of_ble_eq_true rfl⟩ (Nat.le_of_ble_eq_true rfl) (Nat.le_of_ble_eq_true rfl) (Nat.le_of_ble_eq_true rfl) (fun r u _ => ?_)
    obtain ⟨t1, d1⟩ : ∃ z, z = p_chk (M 6) il (tK (M 6) il t.2.1 = 2) 1 t := ⟨_, rfl⟩
    have ht1 : t1.2.1 ≤ il := by rw [d1]; exact PE_chk ht
    have hb1 := tok_b (M 6) ht1 bil
    refine J_wq (congrArg (fun z => mdW G m (pX M il z)) ((p_chk_ite _ _ _).trans d1.symm)) ?_
    refine J_pop hC dX11_look_18 rfl ?_
    refine J_aload_n hC dX11_look_19 0 rfl rfl ?_
    have j_29 : J x G (mdW G m (pX M il t1)) 0 0 [(0, .ref (m 0)), (1, .int lo), (2, .int hi)] [.int (if ¬ tV (M 6) il t1.2.1 < lo ∧ ¬ hi < tV (M 6) il t1.2.1 then 1 else 0), .ref (m 0)] 29 := by
      refine J_iconst (v := 2) hC dX11_look_29 rfl ?_
      refine J_callVi hC dX11_look_30 wl_X11_185 yi_X11_check (c_X11_check _ G m il M t1 (if ¬ tV (M 6) il t1.2.1 < lo ∧ ¬ hi < tV (M 6) il t1.2.1 then 1 else 0) 2 hil bil hfi ht1) rfl rfl 0 11 rfl rfl ⟨Nat.le_of_ble_eq_true rfl, Nat.le_of_ble_eq_true rfl⟩ (Nat.le_of_ble_eq_true rfl) (Nat.le_of_ble_eq_true rfl) (Nat.le_of_ble_eq_true rfl) (fun r u _ => ?_)
      obtain ⟨t2, d2⟩ : ∃ z, z = p_chk (M 6) il (¬ tV (M 6) il t1.2.1 < lo ∧ ¬ hi < tV (M 6) il t1.2.1) 2 t1 := ⟨_, rfl⟩
      have ht2 : t2.2.1 ≤ il := by rw [d2]; exact PE_chk ht1
      have hb2 := tok_b (M 6) ht2 bil
      refine J_wq (congrArg (fun z => mdW G m (pX M il z)) ((p_chk_ite _ _ _).trans d2.symm)) ?_
      refine J_pop hC dX11_look_33 rfl ?_
      refine J_aload_n hC dX11_look_34 0 rfl rfl ?_
      refine J_get (v := .int t2.2.2.1) hC wu_X11 rfl dX11_look_35 0 16 (by decide) wf_X11_153 rfl rfl ?_
      refine J_if_ne (tgt := 48) hC dX11_look_38 (by decide) (fun (c_38 : ¬ t2.2.2.1 = 0) => ?_) (fun (c_38 : t2.2.2.1 = 0) => ?_)
      · refine J_iload_n hC dX11_look_48 1 rfl rfl ?_
        refine J_iret hC hR dX11_look_49 rfl () ?_ ?_ (by decide) (by decide)
        · rw [p_lkV, show p_lk (M 6) il lo hi t = t2 from by rw [d2, d1]; rfl, if_neg c_38]
        · exact congrArg (fun z => mdW G m (pX M il z)) (by rw [d2, d1]; try rfl)
      · refine J_aload_n hC dX11_look_41 0 rfl rfl ?_
        refine J_get (v := .int (tV (M 6) il t2.2.1)) hC wu_X11 rfl dX11_look_42 0 14 (by decide) wf_X11_171 rfl rfl ?_
        refine J_goto (tgt := 49) hC dX11_look_45 (by decide) ?_
        refine J_iret hC hR dX11_look_49 rfl () ?_ ?_ (by decide) (by decide)
        · rw [p_lkV, show p_lk (M 6) il lo hi t = t2 from by rw [d2, d1]; rfl, if_pos c_38]
        · exact congrArg (fun z => mdW G m (pX M il z)) (by rw [d2, d1]; try rfl)
    refine J_aload_n hC dX11_look_20 0 rfl rfl ?_
    refine J_get (v := .int (tV (M 6) il t1.2.1)) hC wu_X11 rfl dX11_look_21 0 14 (by decide) wf_X11_171 rfl rfl ?_
    refine J_iload_n hC dX11_look_24 1 rfl rfl ?_
    refine J_iload_n hC dX11_look_25 2 rfl rfl ?_
    refine J_callSi hC dX11_look_26 wl_X11_156 wi_X11 yi_X11_isBetween (c_X11_isBetween _ G (mdW G m (pX M il t1)) (tV (M 6) il t1.2.1) lo hi) rfl rfl ⟨Nat.le_of_ble_eq_true rfl, Nat.le_of_ble_eq_true rfl⟩ (Nat.le_of_ble_eq_true rfl) (Nat.le_of_ble_eq_true rfl) (Nat.le_of_ble_eq_true rfl) (fun r u h_26 => ?_)
    rcases h_26 with ⟨rfl, c_26⟩ | ⟨rfl, c_26⟩
    · refine J_topi (show (1 : Int32) = (if ¬ tV (M 6) il t1.2.1 < lo ∧ ¬ hi < tV (M 6) il t1.2.1 then 1 else 0) from (if_pos c_26).symm) ?_
      exact j_29
    · refine J_topi (show (0 : Int32) = (if ¬ tV (M 6) il t1.2.1 < lo ∧ ¬ hi < tV (M 6) il t1.2.1 then 1 else 0) from (if_neg c_26).symm) ?_
      exact j_29
  refine J_aload_n hC dX11_look_1 0 rfl rfl ?_
  refine J_get (v := .int (nI (tK (M 6) il t.2.1))) hC wu_X11 rfl dX11_look_2 0 13 (by decide) wf_X11_174 rfl rfl ?_
  refine J_iconst (v := 2) hC dX11_look_5 rfl ?_
  refine J_ic_neN (a := tK (M 6) il t.2.1) (b := 2) (tgt := 13) hC dX11_look_6 (by decide) (by omega) (by omega) (fun (c_6 : ¬ (tK (M 6) il t.2.1) = 2) => ?_) (fun (c_6 : (tK (M 6) il t.2.1) = 2) => ?_)
  · refine J_iconst (v := 0) hC dX11_look_13 rfl ?_
    refine J_topi (show (0 : Int32) = (if tK (M 6) il t.2.1 = 2 then 1 else 0) from (if_neg c_6).symm) ?_
    exact j_14
  · refine J_iconst (v := 1) hC dX11_look_9 rfl ?_
    refine J_goto (tgt := 14) hC dX11_look_10 (by decide) ?_
    refine J_topi (show (1 : Int32) = (if tK (M 6) il t.2.1 = 2 then 1 else 0) from (if_pos c_6).symm) ?_
    exact j_14

set_option maxRecDepth 100000 in
set_option maxHeartbeats 4000000 in
theorem c_X11_number (l : Launch) (G : gT) (m : Nat → Nat) (il : Nat) (M : CT) (t : PS RT) (lo : Int32) (hi : Int32) (hil : M 8 3 = nI il) (bil : il ≤ 600) (hfi : ∀ j, j < il → ¬ M 6 j = -1) (ht : t.2.1 ≤ il) : MI l yX11_number cX11_number 4 (some .int) { frames := 4, cells := 0, slots := 0, locals := 83 } [.ref (m 0), .int lo, .int hi] G (mdW G m (pX M il t)) (fun r (_ : Unit) => r = p_lkV (M 6) il lo hi t) (fun _ => mdW G m (pX M il (p_num (M 6) il lo hi t))) := by
  refine jm_i (own := RX11) (by decide) rfl (Nat.le_of_ble_eq_true rfl) (fun x hl hC hR hN => ?_)
  subst hl
  have hb0 := tok_b (M 6) ht bil
  refine J_aload_n hC dX11_number_0 0 rfl rfl ?_
  refine J_iload_n hC dX11_number_1 1 rfl rfl ?_
  refine J_iload_n hC dX11_number_2 2 rfl rfl ?_
  refine J_callVi hC dX11_number_3 wl_X11_188 yi_X11_look (c_X11_look _ G m il M t lo hi hil bil hfi ht) rfl rfl 0 11 rfl rfl ⟨Nat.le_of_ble_eq_true rfl, Nat.le_of_ble_eq_true rfl⟩ (Nat.le_of_ble_eq_true rfl) (Nat.le_of_ble_eq_true rfl) (Nat.le_of_ble_eq_true rfl) (fun r u h_3 => ?_)
  subst h_3
  obtain ⟨t1, d1⟩ : ∃ z, z = p_lk (M 6) il lo hi t := ⟨_, rfl⟩
  have ht1 : t1.2.1 ≤ il := by rw [d1]; exact PE_lk ht
  have hb1 := tok_b (M 6) ht1 bil
  refine J_wq (congrArg (fun z => mdW G m (pX M il z)) d1.symm) ?_
  refine J_istore_n hC [(3, .int (p_lkV (M 6) il lo hi t)), (0, .ref (m 0)), (1, .int lo), (2, .int hi)] dX11_number_6 rfl (by decide) rfl ?_
  refine J_aload_n hC dX11_number_7 1 rfl rfl ?_
  refine J_callVv hC dX11_number_8 wl_X11_192 yi_X11_next (c_X11_next _ G m il M t1 hil bil hfi ht1) rfl rfl 0 11 rfl rfl ⟨Nat.le_of_ble_eq_true rfl, Nat.le_of_ble_eq_true rfl⟩ (Nat.le_of_ble_eq_true rfl) (Nat.le_of_ble_eq_true rfl) (Nat.le_of_ble_eq_true rfl) (fun _ _ => ?_)
  obtain ⟨t2, d2⟩ : ∃ z, z = p_nxt (M 6) il t1 := ⟨_, rfl⟩
  have ht2 : t2.2.1 ≤ il := by rw [d2]; exact PE_nxt ht1
  have hb2 := tok_b (M 6) ht2 bil
  refine J_wq (congrArg (fun z => mdW G m (pX M il z)) d2.symm) ?_
  refine J_iload_n hC dX11_number_11 0 rfl rfl ?_
  refine J_iret hC hR dX11_number_12 rfl () ?_ ?_ (by decide) (by decide)
  · rfl
  · exact congrArg (fun z => mdW G m (pX M il z)) (by rw [d2, d1]; try rfl)

set_option maxRecDepth 100000 in
set_option maxHeartbeats 4000000 in
theorem c_X11_finish (l : Launch) (G : gT) (m : Nat → Nat) (il : Nat) (M : CT) (t : PS RT) (hil : M 8 3 = nI il) (bil : il ≤ 600) (hfi : ∀ j, j < il → ¬ M 6 j = -1) (ht : t.2.1 ≤ il) : MV l yX11_finish cX11_finish 1 { frames := 4, cells := 0, slots := 0, locals := 83 } [.ref (m 0)] G (mdW G m (pX M il t)) (fun (_ : Unit) => True) (fun _ => mdW G m (pX M il (p_fin (M 6) il t))) := by
  refine jm_v (own := RX11) (by decide) rfl (Nat.le_of_ble_eq_true rfl) (fun x hl hC hR hN => ?_)
  subst hl
  have hb0 := tok_b (M 6) ht bil
  refine J_aload_n hC dX11_finish_0 0 rfl rfl ?_
  have j_28 : J x G (mdW G m (pX M il t)) 0 0 [(0, .ref (m 0))] [.int (if p_semi (M 6) il t.2.1 then 1 else 0), .ref (m 0)] 28 := by
    refine J_iconst (v := 1) hC dX11_finish_28 rfl ?_
    refine J_callVi hC dX11_finish_29 wl_X11_185 yi_X11_check (c_X11_check _ G m il M t (if p_semi (M 6) il t.2.1 then 1 else 0) 1 hil bil hfi ht) rfl rfl 0 11 rfl rfl ⟨Nat.le_of_ble_eq_true rfl, Nat.le_of_ble_eq_true rfl⟩ (Nat.le_of_ble_eq_true rfl) (Nat.le_of_ble_eq_true rfl) (Nat.le_of_ble_eq_true rfl) (fun r u _ => ?_)
    obtain ⟨t1, d1⟩ : ∃ z, z = p_chk (M 6) il (p_semi (M 6) il t.2.1) 1 t := ⟨_, rfl⟩
    have ht1 : t1.2.1 ≤ il := by rw [d1]; exact PE_chk ht
    have hb1 := tok_b (M 6) ht1 bil
    refine J_wq (congrArg (fun z => mdW G m (pX M il z)) ((p_chk_ite _ _ _).trans d1.symm)) ?_
    refine J_pop hC dX11_finish_32 rfl ?_
    refine J_aload_n hC dX11_finish_33 0 rfl rfl ?_
    refine J_callVv hC dX11_finish_34 wl_X11_192 yi_X11_next (c_X11_next _ G m il M t1 hil bil hfi ht1) rfl rfl 0 11 rfl rfl ⟨Nat.le_of_ble_eq_true rfl, Nat.le_of_ble_eq_true rfl⟩ (Nat.le_of_ble_eq_true rfl) (Nat.le_of_ble_eq_true rfl) (Nat.le_of_ble_eq_true rfl) (fun _ _ => ?_)
    obtain ⟨t2, d2⟩ : ∃ z, z = p_nxt (M 6) il t1 := ⟨_, rfl⟩
    have ht2 : t2.2.1 ≤ il := by rw [d2]; exact PE_nxt ht1
    have hb2 := tok_b (M 6) ht2 bil
    refine J_wq (congrArg (fun z => mdW G m (pX M il z)) d2.symm) ?_
    refine J_vret hC hR dX11_finish_37 () ?_ ?_ (by decide) (by decide)
    · trivial
    · exact congrArg (fun z => mdW G m (pX M il z)) (by rw [d2, d1]; try rfl)
  refine J_aload_n hC dX11_finish_1 0 rfl rfl ?_
  refine J_get (v := .int (nI (tK (M 6) il t.2.1))) hC wu_X11 rfl dX11_finish_2 0 13 (by decide) wf_X11_174 rfl rfl ?_
  refine J_iconst (v := 1) hC dX11_finish_5 rfl ?_
  refine J_ic_neN (a := tK (M 6) il t.2.1) (b := 1) (tgt := 27) hC dX11_finish_6 (by decide) (by omega) (by omega) (fun (c_6 : ¬ (tK (M 6) il t.2.1) = 1) => ?_) (fun (c_6 : (tK (M 6) il t.2.1) = 1) => ?_)
  · refine J_iconst (v := 0) hC dX11_finish_27 rfl ?_
    refine J_topi (show (0 : Int32) = (if p_semi (M 6) il t.2.1 then 1 else 0) from (if_neg (fun h => c_6 h.1)).symm) ?_
    exact j_28
  · have hkp := tK_pos (M 6) il t.2.1 (by omega)
    refine J_aload_n hC dX11_finish_9 0 rfl rfl ?_
    refine J_get (v := .ref (m 7)) hC wu_X11 rfl dX11_finish_10 0 9 (by decide) wf_X11_29 rfl rfl ?_
    refine J_aload_n hC dX11_finish_13 0 rfl rfl ?_
    refine J_get (v := .int (nI (tS (M 6) il t.2.1))) hC wu_X11 rfl dX11_finish_14 0 12 (by decide) wf_X11_165 rfl rfl ?_
    refine J_iald (i := tS (M 6) il t.2.1) (v := M 6 (tS (M 6) il t.2.1)) hC dX11_finish_17 7 rfl (by omega) (by decide) rfl ?_
    refine J_bipush (v := 59) hC dX11_finish_18 (by decide +kernel) ?_
    refine J_ic_ne (tgt := 27) hC dX11_finish_20 (by decide) (fun (c_20 : ¬ (M 6 (tS (M 6) il t.2.1)) = 59) => ?_) (fun (c_20 : (M 6 (tS (M 6) il t.2.1)) = 59) => ?_)
    · refine J_iconst (v := 0) hC dX11_finish_27 rfl ?_
      refine J_topi (show (0 : Int32) = (if p_semi (M 6) il t.2.1 then 1 else 0) from (if_neg (fun h => c_20 h.2)).symm) ?_
      exact j_28
    · refine J_iconst (v := 1) hC dX11_finish_23 rfl ?_
      refine J_goto (tgt := 28) hC dX11_finish_24 (by decide) ?_
      refine J_topi (show (1 : Int32) = (if p_semi (M 6) il t.2.1 then 1 else 0) from (if_pos ⟨c_6, c_20⟩).symm) ?_
      exact j_28

set_option maxRecDepth 100000 in
set_option maxHeartbeats 4000000 in
theorem c_X11_is (l : Launch) (G : gT) (m : Nat → Nat) (il : Nat) (M : CT) (t : PS RT) (i : Nat) (hil : M 8 3 = nI il) (bil : il ≤ 600) (hfi : ∀ j, j < il → ¬ M 6 j = -1) (ht : t.2.1 ≤ il) (hi : i < 20) : MI l yX11_is cX11_is 3 (some .boolean) { frames := 4, cells := 0, slots := 0, locals := 85 } [.ref (m 0), .ref ((G.2.2.1 i))] G (mdW G m (pX M il t)) (fun r (_ : Unit) => (r = 1 ∧ tIs (M 6) il t.2.1 i) ∨ (r = 0 ∧ ¬ (tIs (M 6) il t.2.1 i))) (fun _ => mdW G m (pX M il t)) := by
  refine jm_i (own := RX11) (by decide) rfl (Nat.le_of_ble_eq_true rfl) (fun x hl hC hR hN => ?_)
  subst hl
  have hb0 := tok_b (M 6) ht bil
  have hn := SKn_le i hi
  have key : ∀ fuel : Nat, (∀ (j : Nat), (tK (M 6) il t.2.1 = 3) → (tL (M 6) il t.2.1 = SKn.getD i 0) → (j ≤ SKn.getD i 0) → (∀ q, q < j → M 6 (tS (M 6) il t.2.1 + q) = sk_ch i q) → 1000 - j < fuel → J x G (mdW G m (pX M il t)) 0 0 [(0, .ref (m 0)), (1, .ref (G.2.2.1 i)), (2, .int (nI j))] [] 23) := by
    intro fuel
    induction fuel with
    | zero => exact fun _ _ _ _ _ h => absurd h (Nat.not_lt_zero _)
    | succ fuel ih =>
      intro j hk hL hj hA hmu
      refine J_iload_n hC dX11_is_23 2 rfl rfl ?_
      refine J_aload_n hC dX11_is_24 0 rfl rfl ?_
      refine J_get (v := .int (nI (tL (M 6) il t.2.1))) hC wu_X11 rfl dX11_is_25 0 15 (by decide) wf_X11_168 rfl rfl ?_
      refine J_ic_geN (a := j) (b := tL (M 6) il t.2.1) (tgt := 58) hC dX11_is_28 (by decide) (by omega) (by omega) (fun (c_28 : (tL (M 6) il t.2.1) ≤ j) => ?_) (fun (c_28 : j < (tL (M 6) il t.2.1)) => ?_)
      · refine J_iconst (v := 1) hC dX11_is_58 rfl ?_
        refine J_iret hC hR dX11_is_59 rfl () ?_ ?_ (by decide) (by decide)
        · exact Or.inl ⟨rfl, hk, hL, fun q hq => hA q (by omega)⟩
        · rfl
      · refine J_aload_n hC dX11_is_31 0 rfl rfl ?_
        refine J_get (v := .ref (m 7)) hC wu_X11 rfl dX11_is_32 0 9 (by decide) wf_X11_29 rfl rfl ?_
        refine J_aload_n hC dX11_is_35 0 rfl rfl ?_
        refine J_get (v := .int (nI (tS (M 6) il t.2.1))) hC wu_X11 rfl dX11_is_36 0 12 (by decide) wf_X11_165 rfl rfl ?_
        refine J_iload_n hC dX11_is_39 2 rfl rfl ?_
        refine J_iadd (v := nI ((tS (M 6) il t.2.1) + j)) hC dX11_is_40 (nI_add (tS (M 6) il t.2.1) j) ?_
        refine J_iald (i := (tS (M 6) il t.2.1) + j) (v := M 6 ((tS (M 6) il t.2.1) + j)) hC dX11_is_41 7 rfl (by omega) (by decide) rfl ?_
        refine J_aload_n hC dX11_is_42 1 rfl rfl ?_
        refine J_iload_n hC dX11_is_43 2 rfl rfl ?_
        refine J_callVis (i := i) hC dX11_is_44 wl_X11_62 yi_J0_charAt_5068e (c_J0_charAt_5068e _ G (mdW G m (pX M il t)) i j hi (by omega)) rfl rfl hi ⟨Nat.le_of_ble_eq_true rfl, Nat.le_of_ble_eq_true rfl⟩ (Nat.le_of_ble_eq_true rfl) (Nat.le_of_ble_eq_true rfl) (Nat.le_of_ble_eq_true rfl) (fun r u h_44 => ?_)
        subst h_44
        refine J_ic_eq (tgt := 52) hC dX11_is_47 (by decide) (fun (c_47 : (M 6 ((tS (M 6) il t.2.1) + j)) = (sk_ch i j)) => ?_) (fun (c_47 : ¬ (M 6 ((tS (M 6) il t.2.1) + j)) = (sk_ch i j)) => ?_)
        · refine J_iinc hC [(2, .int (nI (j + 1))), (0, .ref (m 0)), (1, .ref (G.2.2.1 i))] dX11_is_52 2 rfl (nI_inc _) (by decide) rfl ?_
          refine J_goto (tgt := 23) hC dX11_is_55 (by decide) ?_
          refine J_lv (lv' := [(0, .ref (m 0)), (1, .ref (G.2.2.1 i)), (2, .int (nI (j + 1)))]) [1, 2, 0] rfl ?_
          exact ih (j + 1) (hk) (hL) (by omega) (fun q hq => (Nat.lt_succ_iff_lt_or_eq.mp hq).elim (hA q) (fun e => by rw [e]; exact c_47)) (by omega)
        · refine J_iconst (v := 0) hC dX11_is_50 rfl ?_
          refine J_iret hC hR dX11_is_51 rfl () ?_ ?_ (by decide) (by decide)
          · exact Or.inr ⟨rfl, fun h => c_47 (h.2.2 j (by omega))⟩
          · rfl
  refine J_aload_n hC dX11_is_0 0 rfl rfl ?_
  refine J_get (v := .int (nI (tK (M 6) il t.2.1))) hC wu_X11 rfl dX11_is_1 0 13 (by decide) wf_X11_174 rfl rfl ?_
  refine J_iconst (v := 3) hC dX11_is_4 rfl ?_
  refine J_ic_neN (a := tK (M 6) il t.2.1) (b := 3) (tgt := 19) hC dX11_is_5 (by decide) (by omega) (by omega) (fun (c_5 : ¬ (tK (M 6) il t.2.1) = 3) => ?_) (fun (c_5 : (tK (M 6) il t.2.1) = 3) => ?_)
  · refine J_iconst (v := 0) hC dX11_is_19 rfl ?_
    refine J_iret hC hR dX11_is_20 rfl () ?_ ?_ (by decide) (by decide)
    · exact Or.inr ⟨rfl, fun h => c_5 h.1⟩
    · rfl
  · refine J_aload_n hC dX11_is_8 0 rfl rfl ?_
    refine J_get (v := .int (nI (tL (M 6) il t.2.1))) hC wu_X11 rfl dX11_is_9 0 15 (by decide) wf_X11_168 rfl rfl ?_
    refine J_aload_n hC dX11_is_12 1 rfl rfl ?_
    refine J_callVis (i := i) hC dX11_is_13 wl_X11_56 yi_J0_length_8abf5 (c_J0_length_8abf5 _ G (mdW G m (pX M il t)) i hi) rfl rfl hi ⟨Nat.le_of_ble_eq_true rfl, Nat.le_of_ble_eq_true rfl⟩ (Nat.le_of_ble_eq_true rfl) (Nat.le_of_ble_eq_true rfl) (Nat.le_of_ble_eq_true rfl) (fun r u h_13 => ?_)
    subst h_13
    refine J_ic_eqN (a := tL (M 6) il t.2.1) (b := SKn.getD i 0) (tgt := 21) hC dX11_is_16 (by decide) (by omega) (by omega) (fun (c_16 : (tL (M 6) il t.2.1) = (SKn.getD i 0)) => ?_) (fun (c_16 : ¬ (tL (M 6) il t.2.1) = (SKn.getD i 0)) => ?_)
    · refine J_iconst (v := 0) hC dX11_is_21 rfl ?_
      refine J_istore_n hC [(2, .int 0), (0, .ref (m 0)), (1, .ref (G.2.2.1 i))] dX11_is_22 rfl (by decide) rfl ?_
      refine J_lv (lv' := [(0, .ref (m 0)), (1, .ref (G.2.2.1 i)), (2, .int 0)]) [1, 2, 0] rfl ?_
      exact (key _) 0 (c_5) (c_16) (by omega) (fun q hq => absurd hq (Nat.not_lt_zero _)) (Nat.lt_succ_self _)
    · refine J_iconst (v := 0) hC dX11_is_19 rfl ?_
      refine J_iret hC hR dX11_is_20 rfl () ?_ ?_ (by decide) (by decide)
      · exact Or.inr ⟨rfl, fun h => c_16 h.2.1⟩
      · rfl

set_option maxRecDepth 100000 in
set_option maxHeartbeats 4000000 in
theorem c_X11_newName (l : Launch) (G : gT) (m : Nat → Nat) (il : Nat) (M : CT) (t : PS RT) (hil : M 8 3 = nI il) (bil : il ≤ 600) (hfi : ∀ j, j < il → ¬ M 6 j = -1) (hp : PI il t) : MI l yX11_newName cX11_newName 2 (some .int) { frames := 4, cells := 0, slots := 0, locals := 83 } [.ref (m 0)] G (mdW G m (pX M il t)) (fun r (_ : Unit) => r = p_nnV (M 6) il t) (fun _ => mdW G m (pX M il (p_nn (M 6) il t))) := by
  refine jm_i (own := RX11) (by decide) rfl (Nat.le_of_ble_eq_true rfl) (fun x hl hC hR hN => ?_)
  subst hl
  have hb0 := tok_b (M 6) hp.1 bil
  refine J_aload_n hC dX11_newName_0 0 rfl rfl ?_
  have j_14 : J x G (mdW G m (pX M il t)) 0 0 [(0, .ref (m 0))] [.int (if tK (M 6) il t.2.1 = 3 then 1 else 0), .ref (m 0)] 14 := by
    refine J_iconst (v := 1) hC dX11_newName_14 rfl ?_
    refine J_callVi hC dX11_newName_15 wl_X11_185 yi_X11_check (c_X11_check _ G m il M t (if tK (M 6) il t.2.1 = 3 then 1 else 0) 1 hil bil hfi hp.1) rfl rfl 0 11 rfl rfl ⟨Nat.le_of_ble_eq_true rfl, Nat.le_of_ble_eq_true rfl⟩ (Nat.le_of_ble_eq_true rfl) (Nat.le_of_ble_eq_true rfl) (Nat.le_of_ble_eq_true rfl) (fun r u _ => ?_)
    obtain ⟨t1, d1⟩ : ∃ z, z = p_chk (M 6) il (tK (M 6) il t.2.1 = 3) 1 t := ⟨_, rfl⟩
    have ht1 : t1.2.1 ≤ il := by rw [d1]; exact PE_chk hp.1
    have hp1 : PI il t1 := by rw [d1]; exact PI_chk (by decide) hp
    have hb1 := tok_b (M 6) ht1 bil
    refine J_wq (congrArg (fun z => mdW G m (pX M il z)) ((p_chk_ite _ _ _).trans d1.symm)) ?_
    refine J_pop hC dX11_newName_18 rfl ?_
    have j_42 : J x G (mdW G m (pX M il t1)) 0 0 [(0, .ref (m 0))] [.int (p_nnV (M 6) il t)] 42 := by
      refine J_istore_n hC [(1, .int (p_nnV (M 6) il t)), (0, .ref (m 0))] dX11_newName_42 rfl (by decide) rfl ?_
      refine J_aload_n hC dX11_newName_43 1 rfl rfl ?_
      have j_54 : J x G (mdW G m (pX M il t1)) 0 0 [(1, .int (p_nnV (M 6) il t)), (0, .ref (m 0))] [.int (if ¬ p_nnV (M 6) il t = -1 then 1 else 0), .ref (m 0)] 54 := by
        refine J_iconst (v := 2) hC dX11_newName_54 rfl ?_
        refine J_callVi hC dX11_newName_55 wl_X11_185 yi_X11_check (c_X11_check _ G m il M t1 (if ¬ p_nnV (M 6) il t = -1 then 1 else 0) 2 hil bil hfi ht1) rfl rfl 0 11 rfl rfl ⟨Nat.le_of_ble_eq_true rfl, Nat.le_of_ble_eq_true rfl⟩ (Nat.le_of_ble_eq_true rfl) (Nat.le_of_ble_eq_true rfl) (Nat.le_of_ble_eq_true rfl) (fun r u _ => ?_)
        obtain ⟨t2, d2⟩ : ∃ z, z = p_chk (M 6) il (¬ p_nnV (M 6) il t = -1) 2 t1 := ⟨_, rfl⟩
        have ht2 : t2.2.1 ≤ il := by rw [d2]; exact PE_chk ht1
        have hp2 : PI il t2 := by rw [d2]; exact PI_chk (by decide) hp1
        have hb2 := tok_b (M 6) ht2 bil
        refine J_wq (congrArg (fun z => mdW G m (pX M il z)) ((p_chk_ite _ _ _).trans d2.symm)) ?_
        refine J_pop hC dX11_newName_58 rfl ?_
        refine J_aload_n hC dX11_newName_59 1 rfl rfl ?_
        have j_96 : J x G (mdW G m (pX M il t2)) 0 0 [(1, .int (p_nnV (M 6) il t)), (0, .ref (m 0))] [.int (if ¬ t2.2.2.1 = 0 ∨ p_free t2.1 (p_nnV (M 6) il t) then 1 else 0), .ref (m 0)] 96 := by
          refine J_iconst (v := 3) hC dX11_newName_96 rfl ?_
          refine J_callVi hC dX11_newName_97 wl_X11_185 yi_X11_check (c_X11_check _ G m il M t2 (if ¬ t2.2.2.1 = 0 ∨ p_free t2.1 (p_nnV (M 6) il t) then 1 else 0) 3 hil bil hfi ht2) rfl rfl 0 11 rfl rfl ⟨Nat.le_of_ble_eq_true rfl, Nat.le_of_ble_eq_true rfl⟩ (Nat.le_of_ble_eq_true rfl) (Nat.le_of_ble_eq_true rfl) (Nat.le_of_ble_eq_true rfl) (fun r u _ => ?_)
          obtain ⟨t3, d3⟩ : ∃ z, z = p_chk (M 6) il (p_free t2.1 (p_nnV (M 6) il t)) 3 t2 := ⟨_, rfl⟩
          have ht3 : t3.2.1 ≤ il := by rw [d3]; exact PE_chk ht2
          have hp3 : PI il t3 := by rw [d3]; exact PI_chk (by decide) hp2
          have hb3 := tok_b (M 6) ht3 bil
          refine J_wq (congrArg (fun z => mdW G m (pX M il z)) ((p_chk_iteo _ _ _).trans d3.symm)) ?_
          refine J_pop hC dX11_newName_100 rfl ?_
          refine J_aload_n hC dX11_newName_101 1 rfl rfl ?_
          refine J_callVv hC dX11_newName_102 wl_X11_192 yi_X11_next (c_X11_next _ G m il M t3 hil bil hfi ht3) rfl rfl 0 11 rfl rfl ⟨Nat.le_of_ble_eq_true rfl, Nat.le_of_ble_eq_true rfl⟩ (Nat.le_of_ble_eq_true rfl) (Nat.le_of_ble_eq_true rfl) (Nat.le_of_ble_eq_true rfl) (fun _ _ => ?_)
          obtain ⟨t4, d4⟩ : ∃ z, z = p_nxt (M 6) il t3 := ⟨_, rfl⟩
          have ht4 : t4.2.1 ≤ il := by rw [d4]; exact PE_nxt ht3
          have hp4 : PI il t4 := by rw [d4]; exact PI_nxt hp3
          have hb4 := tok_b (M 6) ht4 bil
          refine J_wq (congrArg (fun z => mdW G m (pX M il z)) d4.symm) ?_
          refine J_iload_n hC dX11_newName_105 0 rfl rfl ?_
          refine J_iret hC hR dX11_newName_106 rfl () ?_ ?_ (by decide) (by decide)
          · rfl
          · exact congrArg (fun z => mdW G m (pX M il z)) (by rw [d4, d3, d2, d1]; try rfl)
        refine J_aload_n hC dX11_newName_60 1 rfl rfl ?_
        refine J_get (v := .int t2.2.2.1) hC wu_X11 rfl dX11_newName_61 0 16 (by decide) wf_X11_153 rfl rfl ?_
        refine J_if_ne (tgt := 91) hC dX11_newName_64 (by decide) (fun (c_64 : ¬ t2.2.2.1 = 0) => ?_) (fun (c_64 : t2.2.2.1 = 0) => ?_)
        · refine J_iconst (v := 1) hC dX11_newName_91 rfl ?_
          refine J_goto (tgt := 96) hC dX11_newName_92 (by decide) ?_
          refine J_topi (show (1 : Int32) = (if ¬ t2.2.2.1 = 0 ∨ p_free t2.1 (p_nnV (M 6) il t) then 1 else 0) from (if_pos (Or.inl c_64)).symm) ?_
          exact j_96
        · have hG := hp2.2 c_64
          have hbc := hG.1.2
          have hvc := hG.2.1.2
          have hfc := hG.2.2.1.2
          have hmc := hG.2.2.2.1.2
          refine J_aload_n hC dX11_newName_67 1 rfl rfl ?_
          refine J_get (v := .ref (m 2)) hC wu_X11 rfl dX11_newName_68 0 1 (by decide) wf_X11_13 rfl rfl ?_
          refine J_iload_n hC dX11_newName_71 0 rfl rfl ?_
          refine J_callSi hC dX11_newName_72 wl_X11_198 wi_X11 yi_X11_villageNamed (mdl1_ir (c_X11_villageNamed _ G (m 2) t2.1 (m_vc t2.1) (p_nnV (M 6) il t) (hG.2.1.1) (by omega))) rfl rfl ⟨Nat.le_of_ble_eq_true rfl, Nat.le_of_ble_eq_true rfl⟩ (Nat.le_of_ble_eq_true rfl) (Nat.le_of_ble_eq_true rfl) (Nat.le_of_ble_eq_true rfl) (fun r u h_72 => ?_)
          subst h_72
          rcases m_named_cases t2.1 24 3 (p_nnV (M 6) il t) (m_vc t2.1) with p_72 | ⟨k_72, hk_72, p_72⟩
          · refine J_topi p_72 ?_
            refine J_iconst (v := (-1)) hC dX11_newName_75 rfl ?_
            refine J_ic_ne (tgt := 95) hC dX11_newName_76 (by decide) (fun c => absurd (by decide) c) (fun _ => ?_)
            refine J_aload_n hC dX11_newName_79 1 rfl rfl ?_
            refine J_get (v := .ref (m 2)) hC wu_X11 rfl dX11_newName_80 0 1 (by decide) wf_X11_13 rfl rfl ?_
            refine J_iload_n hC dX11_newName_83 0 rfl rfl ?_
            refine J_callSi hC dX11_newName_84 wl_X11_201 wi_X11 yi_X11_fairNamed (mdl1_ir (c_X11_fairNamed _ G (m 2) t2.1 (m_fc t2.1) (p_nnV (M 6) il t) (hG.2.2.1.1) (by omega))) rfl rfl ⟨Nat.le_of_ble_eq_true rfl, Nat.le_of_ble_eq_true rfl⟩ (Nat.le_of_ble_eq_true rfl) (Nat.le_of_ble_eq_true rfl) (Nat.le_of_ble_eq_true rfl) (fun r u h_84 => ?_)
            subst h_84
            rcases m_named_cases t2.1 42 5 (p_nnV (M 6) il t) (m_fc t2.1) with p_84 | ⟨k_84, hk_84, p_84⟩
            · refine J_topi p_84 ?_
              refine J_iconst (v := (-1)) hC dX11_newName_87 rfl ?_
              refine J_ic_ne (tgt := 95) hC dX11_newName_88 (by decide) (fun c => absurd (by decide) c) (fun _ => ?_)
              refine J_iconst (v := 1) hC dX11_newName_91 rfl ?_
              refine J_goto (tgt := 96) hC dX11_newName_92 (by decide) ?_
              refine J_topi (show (1 : Int32) = (if ¬ t2.2.2.1 = 0 ∨ p_free t2.1 (p_nnV (M 6) il t) then 1 else 0) from (if_pos (Or.inr ⟨p_72, p_84⟩)).symm) ?_
              exact j_96
            · refine J_topi p_84 ?_
              refine J_iconst (v := (-1)) hC dX11_newName_87 rfl ?_
              refine J_ic_ne (tgt := 95) hC dX11_newName_88 (by decide) (fun _ => ?_) (fun c => absurd c (nI_ne_m1 (by omega)))
              refine J_iconst (v := 0) hC dX11_newName_95 rfl ?_
              refine J_topi (show (0 : Int32) = (if ¬ t2.2.2.1 = 0 ∨ p_free t2.1 (p_nnV (M 6) il t) then 1 else 0) from (if_neg (fun h => h.elim (fun z => z c_64) (fun h => nI_ne_m1 (by omega) (p_84.symm.trans h.2)))).symm) ?_
              exact j_96
          · refine J_topi p_72 ?_
            refine J_iconst (v := (-1)) hC dX11_newName_75 rfl ?_
            refine J_ic_ne (tgt := 95) hC dX11_newName_76 (by decide) (fun _ => ?_) (fun c => absurd c (nI_ne_m1 (by omega)))
            refine J_iconst (v := 0) hC dX11_newName_95 rfl ?_
            refine J_topi (show (0 : Int32) = (if ¬ t2.2.2.1 = 0 ∨ p_free t2.1 (p_nnV (M 6) il t) then 1 else 0) from (if_neg (fun h => h.elim (fun z => z c_64) (fun h => nI_ne_m1 (by omega) (p_72.symm.trans h.1)))).symm) ?_
            exact j_96
      refine J_iload_n hC dX11_newName_44 0 rfl rfl ?_
      refine J_iconst (v := (-1)) hC dX11_newName_45 rfl ?_
      refine J_ic_eq (tgt := 53) hC dX11_newName_46 (by decide) (fun (c_46 : (p_nnV (M 6) il t) = (-1)) => ?_) (fun (c_46 : ¬ (p_nnV (M 6) il t) = (-1)) => ?_)
      · refine J_iconst (v := 0) hC dX11_newName_53 rfl ?_
        refine J_topi (show (0 : Int32) = (if ¬ p_nnV (M 6) il t = -1 then 1 else 0) from (if_neg (fun h => h c_46)).symm) ?_
        exact j_54
      · refine J_iconst (v := 1) hC dX11_newName_49 rfl ?_
        refine J_goto (tgt := 54) hC dX11_newName_50 (by decide) ?_
        refine J_topi (show (1 : Int32) = (if ¬ p_nnV (M 6) il t = -1 then 1 else 0) from (if_pos c_46).symm) ?_
        exact j_54
    refine J_aload_n hC dX11_newName_19 0 rfl rfl ?_
    refine J_get (v := .int t1.2.2.1) hC wu_X11 rfl dX11_newName_20 0 16 (by decide) wf_X11_153 rfl rfl ?_
    refine J_if_ne (tgt := 41) hC dX11_newName_23 (by decide) (fun (c_23 : ¬ t1.2.2.1 = 0) => ?_) (fun (c_23 : t1.2.2.1 = 0) => ?_)
    · refine J_iconst (v := 0) hC dX11_newName_41 rfl ?_
      refine J_topi (show (0 : Int32) = (p_nnV (M 6) il t) from by rw [p_nnV, show p_wd (M 6) il t = t1 from d1.symm, if_neg c_23]) ?_
      exact j_42
    · refine J_aload_n hC dX11_newName_26 0 rfl rfl ?_
      refine J_aload_n hC dX11_newName_27 0 rfl rfl ?_
      refine J_get (v := .int (nI (tS (M 6) il t1.2.1))) hC wu_X11 rfl dX11_newName_28 0 12 (by decide) wf_X11_165 rfl rfl ?_
      refine J_aload_n hC dX11_newName_31 0 rfl rfl ?_
      refine J_get (v := .int (nI (tL (M 6) il t1.2.1))) hC wu_X11 rfl dX11_newName_32 0 15 (by decide) wf_X11_168 rfl rfl ?_
      refine J_callVi hC dX11_newName_35 wl_X11_195 yi_X11_nameFrom (c_X11_nameFrom _ G m (pX M il t1) (tS (M 6) il t1.2.1) (tL (M 6) il t1.2.1) (by omega)) rfl rfl 0 11 rfl rfl ⟨Nat.le_of_ble_eq_true rfl, Nat.le_of_ble_eq_true rfl⟩ (Nat.le_of_ble_eq_true rfl) (Nat.le_of_ble_eq_true rfl) (Nat.le_of_ble_eq_true rfl) (fun r u h_35 => ?_)
      subst h_35
      refine J_goto (tgt := 42) hC dX11_newName_38 (by decide) ?_
      refine J_topi (show (q_nm (M 6) (tS (M 6) il t1.2.1) (tL (M 6) il t1.2.1) : Int32) = (p_nnV (M 6) il t) from by rw [p_nnV, show p_wd (M 6) il t = t1 from d1.symm, if_pos c_23]; rfl) ?_
      exact j_42
  refine J_aload_n hC dX11_newName_1 0 rfl rfl ?_
  refine J_get (v := .int (nI (tK (M 6) il t.2.1))) hC wu_X11 rfl dX11_newName_2 0 13 (by decide) wf_X11_174 rfl rfl ?_
  refine J_iconst (v := 3) hC dX11_newName_5 rfl ?_
  refine J_ic_neN (a := tK (M 6) il t.2.1) (b := 3) (tgt := 13) hC dX11_newName_6 (by decide) (by omega) (by omega) (fun (c_6 : ¬ (tK (M 6) il t.2.1) = 3) => ?_) (fun (c_6 : (tK (M 6) il t.2.1) = 3) => ?_)
  · refine J_iconst (v := 0) hC dX11_newName_13 rfl ?_
    refine J_topi (show (0 : Int32) = (if tK (M 6) il t.2.1 = 3 then 1 else 0) from (if_neg c_6).symm) ?_
    exact j_14
  · refine J_iconst (v := 1) hC dX11_newName_9 rfl ?_
    refine J_goto (tgt := 14) hC dX11_newName_10 (by decide) ?_
    refine J_topi (show (1 : Int32) = (if tK (M 6) il t.2.1 = 3 then 1 else 0) from (if_pos c_6).symm) ?_
    exact j_14

set_option maxRecDepth 100000 in
set_option maxHeartbeats 4000000 in
theorem c_X11_villageHere (l : Launch) (G : gT) (m : Nat → Nat) (il : Nat) (M : CT) (t : PS RT) (hil : M 8 3 = nI il) (bil : il ≤ 600) (hfi : ∀ j, j < il → ¬ M 6 j = -1) (hp : PI il t) : MI l yX11_villageHere cX11_villageHere 2 (some .int) { frames := 4, cells := 0, slots := 0, locals := 83 } [.ref (m 0)] G (mdW G m (pX M il t)) (fun r (_ : Unit) => r = p_vhV (M 6) il t) (fun _ => mdW G m (pX M il (p_vh (M 6) il t))) := by
  refine jm_i (own := RX11) (by decide) rfl (Nat.le_of_ble_eq_true rfl) (fun x hl hC hR hN => ?_)
  subst hl
  have hb0 := tok_b (M 6) hp.1 bil
  refine J_aload_n hC dX11_villageHere_0 0 rfl rfl ?_
  have j_14 : J x G (mdW G m (pX M il t)) 0 0 [(0, .ref (m 0))] [.int (if tK (M 6) il t.2.1 = 3 then 1 else 0), .ref (m 0)] 14 := by
    refine J_iconst (v := 1) hC dX11_villageHere_14 rfl ?_
    refine J_callVi hC dX11_villageHere_15 wl_X11_185 yi_X11_check (c_X11_check _ G m il M t (if tK (M 6) il t.2.1 = 3 then 1 else 0) 1 hil bil hfi hp.1) rfl rfl 0 11 rfl rfl ⟨Nat.le_of_ble_eq_true rfl, Nat.le_of_ble_eq_true rfl⟩ (Nat.le_of_ble_eq_true rfl) (Nat.le_of_ble_eq_true rfl) (Nat.le_of_ble_eq_true rfl) (fun r u _ => ?_)
    obtain ⟨t1, d1⟩ : ∃ z, z = p_chk (M 6) il (tK (M 6) il t.2.1 = 3) 1 t := ⟨_, rfl⟩
    have ht1 : t1.2.1 ≤ il := by rw [d1]; exact PE_chk hp.1
    have hp1 : PI il t1 := by rw [d1]; exact PI_chk (by decide) hp
    have hb1 := tok_b (M 6) ht1 bil
    refine J_wq (congrArg (fun z => mdW G m (pX M il z)) ((p_chk_ite _ _ _).trans d1.symm)) ?_
    refine J_pop hC dX11_villageHere_18 rfl ?_
    have j_49 : J x G (mdW G m (pX M il t1)) 0 0 [(0, .ref (m 0))] [.int (p_vhW (M 6) il t)] 49 := by
      refine J_istore_n hC [(1, .int (p_vhW (M 6) il t)), (0, .ref (m 0))] dX11_villageHere_49 rfl (by decide) rfl ?_
      refine J_aload_n hC dX11_villageHere_50 1 rfl rfl ?_
      have j_61 : J x G (mdW G m (pX M il t1)) 0 0 [(1, .int (p_vhW (M 6) il t)), (0, .ref (m 0))] [.int (if ¬ p_vhW (M 6) il t = -1 then 1 else 0), .ref (m 0)] 61 := by
        refine J_iconst (v := 4) hC dX11_villageHere_61 rfl ?_
        refine J_callVi hC dX11_villageHere_62 wl_X11_185 yi_X11_check (c_X11_check _ G m il M t1 (if ¬ p_vhW (M 6) il t = -1 then 1 else 0) 4 hil bil hfi ht1) rfl rfl 0 11 rfl rfl ⟨Nat.le_of_ble_eq_true rfl, Nat.le_of_ble_eq_true rfl⟩ (Nat.le_of_ble_eq_true rfl) (Nat.le_of_ble_eq_true rfl) (Nat.le_of_ble_eq_true rfl) (fun r u _ => ?_)
        obtain ⟨t2, d2⟩ : ∃ z, z = p_chk (M 6) il (¬ p_vhW (M 6) il t = -1) 4 t1 := ⟨_, rfl⟩
        have ht2 : t2.2.1 ≤ il := by rw [d2]; exact PE_chk ht1
        have hp2 : PI il t2 := by rw [d2]; exact PI_chk (by decide) hp1
        have hb2 := tok_b (M 6) ht2 bil
        refine J_wq (congrArg (fun z => mdW G m (pX M il z)) ((p_chk_ite _ _ _).trans d2.symm)) ?_
        refine J_pop hC dX11_villageHere_65 rfl ?_
        refine J_aload_n hC dX11_villageHere_66 1 rfl rfl ?_
        refine J_callVv hC dX11_villageHere_67 wl_X11_192 yi_X11_next (c_X11_next _ G m il M t2 hil bil hfi ht2) rfl rfl 0 11 rfl rfl ⟨Nat.le_of_ble_eq_true rfl, Nat.le_of_ble_eq_true rfl⟩ (Nat.le_of_ble_eq_true rfl) (Nat.le_of_ble_eq_true rfl) (Nat.le_of_ble_eq_true rfl) (fun _ _ => ?_)
        obtain ⟨t3, d3⟩ : ∃ z, z = p_nxt (M 6) il t2 := ⟨_, rfl⟩
        have ht3 : t3.2.1 ≤ il := by rw [d3]; exact PE_nxt ht2
        have hp3 : PI il t3 := by rw [d3]; exact PI_nxt hp2
        have hb3 := tok_b (M 6) ht3 bil
        refine J_wq (congrArg (fun z => mdW G m (pX M il z)) d3.symm) ?_
        have j_82 : J x G (mdW G m (pX M il t3)) 0 0 [(1, .int (p_vhW (M 6) il t)), (0, .ref (m 0))] [.int (p_vhV (M 6) il t)] 82 := by
          refine J_iret hC hR dX11_villageHere_82 rfl () ?_ ?_ (by decide) (by decide)
          · rfl
          · exact congrArg (fun z => mdW G m (pX M il z)) (by rw [d3, d2, d1]; try rfl)
        refine J_aload_n hC dX11_villageHere_70 1 rfl rfl ?_
        refine J_get (v := .int t3.2.2.1) hC wu_X11 rfl dX11_villageHere_71 0 16 (by decide) wf_X11_153 rfl rfl ?_
        refine J_if_ne (tgt := 81) hC dX11_villageHere_74 (by decide) (fun (c_74 : ¬ t3.2.2.1 = 0) => ?_) (fun (c_74 : t3.2.2.1 = 0) => ?_)
        · refine J_iconst (v := 0) hC dX11_villageHere_81 rfl ?_
          refine J_topi (show (0 : Int32) = (p_vhV (M 6) il t) from by rw [p_vhV, show p_vh (M 6) il t = t3 from by rw [d3, d2, d1]; rfl, if_neg c_74]) ?_
          exact j_82
        · refine J_iload_n hC dX11_villageHere_77 0 rfl rfl ?_
          refine J_goto (tgt := 82) hC dX11_villageHere_78 (by decide) ?_
          refine J_topi (show (p_vhW (M 6) il t : Int32) = (p_vhV (M 6) il t) from by rw [p_vhV, show p_vh (M 6) il t = t3 from by rw [d3, d2, d1]; rfl, if_pos c_74]) ?_
          exact j_82
      refine J_iload_n hC dX11_villageHere_51 0 rfl rfl ?_
      refine J_iconst (v := (-1)) hC dX11_villageHere_52 rfl ?_
      refine J_ic_eq (tgt := 60) hC dX11_villageHere_53 (by decide) (fun (c_53 : (p_vhW (M 6) il t) = (-1)) => ?_) (fun (c_53 : ¬ (p_vhW (M 6) il t) = (-1)) => ?_)
      · refine J_iconst (v := 0) hC dX11_villageHere_60 rfl ?_
        refine J_topi (show (0 : Int32) = (if ¬ p_vhW (M 6) il t = -1 then 1 else 0) from (if_neg (fun h => h c_53)).symm) ?_
        exact j_61
      · refine J_iconst (v := 1) hC dX11_villageHere_56 rfl ?_
        refine J_goto (tgt := 61) hC dX11_villageHere_57 (by decide) ?_
        refine J_topi (show (1 : Int32) = (if ¬ p_vhW (M 6) il t = -1 then 1 else 0) from (if_pos c_53).symm) ?_
        exact j_61
    refine J_aload_n hC dX11_villageHere_19 0 rfl rfl ?_
    refine J_get (v := .int t1.2.2.1) hC wu_X11 rfl dX11_villageHere_20 0 16 (by decide) wf_X11_153 rfl rfl ?_
    refine J_if_ne (tgt := 48) hC dX11_villageHere_23 (by decide) (fun (c_23 : ¬ t1.2.2.1 = 0) => ?_) (fun (c_23 : t1.2.2.1 = 0) => ?_)
    · refine J_iconst (v := 0) hC dX11_villageHere_48 rfl ?_
      refine J_topi (show (0 : Int32) = (p_vhW (M 6) il t) from by rw [p_vhW, show p_wd (M 6) il t = t1 from d1.symm, if_neg c_23]) ?_
      exact j_49
    · have hG := hp1.2 c_23
      have hbc := hG.1.2
      have hvc := hG.2.1.2
      have hfc := hG.2.2.1.2
      have hmc := hG.2.2.2.1.2
      refine J_aload_n hC dX11_villageHere_26 0 rfl rfl ?_
      refine J_get (v := .ref (m 2)) hC wu_X11 rfl dX11_villageHere_27 0 1 (by decide) wf_X11_13 rfl rfl ?_
      refine J_aload_n hC dX11_villageHere_30 0 rfl rfl ?_
      refine J_aload_n hC dX11_villageHere_31 0 rfl rfl ?_
      refine J_get (v := .int (nI (tS (M 6) il t1.2.1))) hC wu_X11 rfl dX11_villageHere_32 0 12 (by decide) wf_X11_165 rfl rfl ?_
      refine J_aload_n hC dX11_villageHere_35 0 rfl rfl ?_
      refine J_get (v := .int (nI (tL (M 6) il t1.2.1))) hC wu_X11 rfl dX11_villageHere_36 0 15 (by decide) wf_X11_168 rfl rfl ?_
      refine J_callVi hC dX11_villageHere_39 wl_X11_195 yi_X11_nameFrom (c_X11_nameFrom _ G m (pX M il t1) (tS (M 6) il t1.2.1) (tL (M 6) il t1.2.1) (by omega)) rfl rfl 0 11 rfl rfl ⟨Nat.le_of_ble_eq_true rfl, Nat.le_of_ble_eq_true rfl⟩ (Nat.le_of_ble_eq_true rfl) (Nat.le_of_ble_eq_true rfl) (Nat.le_of_ble_eq_true rfl) (fun r u h_39 => ?_)
      subst h_39
      refine J_callSi hC dX11_villageHere_42 wl_X11_198 wi_X11 yi_X11_villageNamed (mdl1_ir (c_X11_villageNamed _ G (m 2) t1.1 (m_vc t1.1) (q_nm (M 6) (tS (M 6) il t1.2.1) (tL (M 6) il t1.2.1)) (hG.2.1.1) (by omega))) rfl rfl ⟨Nat.le_of_ble_eq_true rfl, Nat.le_of_ble_eq_true rfl⟩ (Nat.le_of_ble_eq_true rfl) (Nat.le_of_ble_eq_true rfl) (Nat.le_of_ble_eq_true rfl) (fun r u h_42 => ?_)
      subst h_42
      rcases m_named_cases t1.1 24 3 (q_nm (M 6) (tS (M 6) il t1.2.1) (tL (M 6) il t1.2.1)) (m_vc t1.1) with p_42 | ⟨k_42, hk_42, p_42⟩
      · refine J_topi p_42 ?_
        refine J_goto (tgt := 49) hC dX11_villageHere_45 (by decide) ?_
        refine J_topi (show ((-1) : Int32) = (p_vhW (M 6) il t) from by rw [p_vhW, show p_wd (M 6) il t = t1 from d1.symm, if_pos c_23]; exact p_42.symm) ?_
        exact j_49
      · refine J_topi p_42 ?_
        refine J_goto (tgt := 49) hC dX11_villageHere_45 (by decide) ?_
        refine J_topi (show (nI k_42 : Int32) = (p_vhW (M 6) il t) from by rw [p_vhW, show p_wd (M 6) il t = t1 from d1.symm, if_pos c_23]; exact p_42.symm) ?_
        exact j_49
  refine J_aload_n hC dX11_villageHere_1 0 rfl rfl ?_
  refine J_get (v := .int (nI (tK (M 6) il t.2.1))) hC wu_X11 rfl dX11_villageHere_2 0 13 (by decide) wf_X11_174 rfl rfl ?_
  refine J_iconst (v := 3) hC dX11_villageHere_5 rfl ?_
  refine J_ic_neN (a := tK (M 6) il t.2.1) (b := 3) (tgt := 13) hC dX11_villageHere_6 (by decide) (by omega) (by omega) (fun (c_6 : ¬ (tK (M 6) il t.2.1) = 3) => ?_) (fun (c_6 : (tK (M 6) il t.2.1) = 3) => ?_)
  · refine J_iconst (v := 0) hC dX11_villageHere_13 rfl ?_
    refine J_topi (show (0 : Int32) = (if tK (M 6) il t.2.1 = 3 then 1 else 0) from (if_neg c_6).symm) ?_
    exact j_14
  · refine J_iconst (v := 1) hC dX11_villageHere_9 rfl ?_
    refine J_goto (tgt := 14) hC dX11_villageHere_10 (by decide) ?_
    refine J_topi (show (1 : Int32) = (if tK (M 6) il t.2.1 = 3 then 1 else 0) from (if_pos c_6).symm) ?_
    exact j_14

set_option maxRecDepth 100000 in
set_option maxHeartbeats 4000000 in
theorem c_X11_weatherHere (l : Launch) (G : gT) (m : Nat → Nat) (il : Nat) (M : CT) (t : PS RT) (hil : M 8 3 = nI il) (bil : il ≤ 600) (hfi : ∀ j, j < il → ¬ M 6 j = -1) (ht : t.2.1 ≤ il) : MI l yX11_weatherHere cX11_weatherHere 2 (some .int) { frames := 5, cells := 0, slots := 0, locals := 107 } [.ref (m 0)] G (mdW G m (pX M il t)) (fun r (_ : Unit) => r = p_whV (M 6) il t) (fun _ => mdW G m (pX M il (p_wh (M 6) il t))) := by
  refine jm_i (own := RX11) (by decide) rfl (Nat.le_of_ble_eq_true rfl) (fun x hl hC hR hN => ?_)
  subst hl
  have hb0 := tok_b (M 6) ht bil
  refine J_iconst (v := (-1)) hC dX11_weatherHere_0 rfl ?_
  refine J_istore_n hC [(1, .int (-1)), (0, .ref (m 0))] dX11_weatherHere_1 rfl (by decide) rfl ?_
  refine J_aload_n hC dX11_weatherHere_2 1 rfl rfl ?_
  refine J_ldcS (i := 15) hC (by decide) rfl rfl dX11_weatherHere_3 ?_
  refine J_callVi hC dX11_weatherHere_5 wl_X11_206 yi_X11_is (c_X11_is _ G m il M t 15 hil bil hfi ht (by decide)) rfl rfl 0 11 rfl rfl ⟨Nat.le_of_ble_eq_true rfl, Nat.le_of_ble_eq_true rfl⟩ (Nat.le_of_ble_eq_true rfl) (Nat.le_of_ble_eq_true rfl) (Nat.le_of_ble_eq_true rfl) (fun r u h_5 => ?_)
  rcases h_5 with ⟨rfl, c_5⟩ | ⟨rfl, c_5⟩
  · refine J_if_eq (tgt := 16) hC dX11_weatherHere_8 (by decide) (fun c => absurd c (by decide)) (fun _ => ?_)
    refine J_iconst (v := 0) hC dX11_weatherHere_11 rfl ?_
    refine J_istore_n hC [(1, .int 0), (0, .ref (m 0))] dX11_weatherHere_12 rfl (by decide) rfl ?_
    refine J_goto (tgt := 41) hC dX11_weatherHere_13 (by decide) ?_
    have eV := (show p_whV (M 6) il t = 0 from if_pos c_5)
    refine J_lvq (lv' := [(1, .int (p_whV (M 6) il t)), (0, .ref (m 0))]) (by rw [eV]) ?_
    refine J_aload_n hC dX11_weatherHere_41 1 rfl rfl ?_
    have j_52 : J x G (mdW G m (pX M il t)) 0 0 [(1, .int (p_whV (M 6) il t)), (0, .ref (m 0))] [.int (if ¬ p_whV (M 6) il t = -1 then 1 else 0), .ref (m 0)] 52 := by
      refine J_iconst (v := 1) hC dX11_weatherHere_52 rfl ?_
      refine J_callVi hC dX11_weatherHere_53 wl_X11_185 yi_X11_check (c_X11_check _ G m il M t (if ¬ p_whV (M 6) il t = -1 then 1 else 0) 1 hil bil hfi ht) rfl rfl 0 11 rfl rfl ⟨Nat.le_of_ble_eq_true rfl, Nat.le_of_ble_eq_true rfl⟩ (Nat.le_of_ble_eq_true rfl) (Nat.le_of_ble_eq_true rfl) (Nat.le_of_ble_eq_true rfl) (fun r u _ => ?_)
      obtain ⟨t1, d1⟩ : ∃ z, z = p_chk (M 6) il (¬ p_whV (M 6) il t = -1) 1 t := ⟨_, rfl⟩
      have ht1 : t1.2.1 ≤ il := by rw [d1]; exact PE_chk ht
      have hb1 := tok_b (M 6) ht1 bil
      refine J_wq (congrArg (fun z => mdW G m (pX M il z)) ((p_chk_ite _ _ _).trans d1.symm)) ?_
      refine J_pop hC dX11_weatherHere_56 rfl ?_
      refine J_aload_n hC dX11_weatherHere_57 1 rfl rfl ?_
      refine J_callVv hC dX11_weatherHere_58 wl_X11_192 yi_X11_next (c_X11_next _ G m il M t1 hil bil hfi ht1) rfl rfl 0 11 rfl rfl ⟨Nat.le_of_ble_eq_true rfl, Nat.le_of_ble_eq_true rfl⟩ (Nat.le_of_ble_eq_true rfl) (Nat.le_of_ble_eq_true rfl) (Nat.le_of_ble_eq_true rfl) (fun _ _ => ?_)
      obtain ⟨t2, d2⟩ : ∃ z, z = p_nxt (M 6) il t1 := ⟨_, rfl⟩
      have ht2 : t2.2.1 ≤ il := by rw [d2]; exact PE_nxt ht1
      have hb2 := tok_b (M 6) ht2 bil
      refine J_wq (congrArg (fun z => mdW G m (pX M il z)) d2.symm) ?_
      refine J_iload_n hC dX11_weatherHere_61 0 rfl rfl ?_
      refine J_iret hC hR dX11_weatherHere_62 rfl () ?_ ?_ (by decide) (by decide)
      · rfl
      · exact congrArg (fun z => mdW G m (pX M il z)) (by rw [d2, d1]; try rfl)
    refine J_iload_n hC dX11_weatherHere_42 0 rfl rfl ?_
    refine J_iconst (v := (-1)) hC dX11_weatherHere_43 rfl ?_
    refine J_ic_eq (tgt := 51) hC dX11_weatherHere_44 (by decide) (fun (c_44 : (p_whV (M 6) il t) = (-1)) => ?_) (fun (c_44 : ¬ (p_whV (M 6) il t) = (-1)) => ?_)
    · refine J_iconst (v := 0) hC dX11_weatherHere_51 rfl ?_
      refine J_topi (show (0 : Int32) = (if ¬ p_whV (M 6) il t = -1 then 1 else 0) from (if_neg (fun h => h c_44)).symm) ?_
      exact j_52
    · refine J_iconst (v := 1) hC dX11_weatherHere_47 rfl ?_
      refine J_goto (tgt := 52) hC dX11_weatherHere_48 (by decide) ?_
      refine J_topi (show (1 : Int32) = (if ¬ p_whV (M 6) il t = -1 then 1 else 0) from (if_pos c_44).symm) ?_
      exact j_52
  · refine J_if_eq (tgt := 16) hC dX11_weatherHere_8 (by decide) (fun _ => ?_) (fun c => absurd (by decide) c)
    refine J_aload_n hC dX11_weatherHere_16 1 rfl rfl ?_
    refine J_ldcS (i := 16) hC (by decide) rfl rfl dX11_weatherHere_17 ?_
    refine J_callVi hC dX11_weatherHere_19 wl_X11_206 yi_X11_is (c_X11_is _ G m il M t 16 hil bil hfi ht (by decide)) rfl rfl 0 11 rfl rfl ⟨Nat.le_of_ble_eq_true rfl, Nat.le_of_ble_eq_true rfl⟩ (Nat.le_of_ble_eq_true rfl) (Nat.le_of_ble_eq_true rfl) (Nat.le_of_ble_eq_true rfl) (fun r u h_19 => ?_)
    rcases h_19 with ⟨rfl, c_19⟩ | ⟨rfl, c_19⟩
    · refine J_if_eq (tgt := 30) hC dX11_weatherHere_22 (by decide) (fun c => absurd c (by decide)) (fun _ => ?_)
      refine J_iconst (v := 1) hC dX11_weatherHere_25 rfl ?_
      refine J_istore_n hC [(1, .int 1), (0, .ref (m 0))] dX11_weatherHere_26 rfl (by decide) rfl ?_
      refine J_goto (tgt := 41) hC dX11_weatherHere_27 (by decide) ?_
      have eV := (show p_whV (M 6) il t = 1 from by rw [p_whV, if_neg c_5, if_pos c_19])
      refine J_lvq (lv' := [(1, .int (p_whV (M 6) il t)), (0, .ref (m 0))]) (by rw [eV]) ?_
      refine J_aload_n hC dX11_weatherHere_41 1 rfl rfl ?_
      have j_52 : J x G (mdW G m (pX M il t)) 0 0 [(1, .int (p_whV (M 6) il t)), (0, .ref (m 0))] [.int (if ¬ p_whV (M 6) il t = -1 then 1 else 0), .ref (m 0)] 52 := by
        refine J_iconst (v := 1) hC dX11_weatherHere_52 rfl ?_
        refine J_callVi hC dX11_weatherHere_53 wl_X11_185 yi_X11_check (c_X11_check _ G m il M t (if ¬ p_whV (M 6) il t = -1 then 1 else 0) 1 hil bil hfi ht) rfl rfl 0 11 rfl rfl ⟨Nat.le_of_ble_eq_true rfl, Nat.le_of_ble_eq_true rfl⟩ (Nat.le_of_ble_eq_true rfl) (Nat.le_of_ble_eq_true rfl) (Nat.le_of_ble_eq_true rfl) (fun r u _ => ?_)
        obtain ⟨t1, d1⟩ : ∃ z, z = p_chk (M 6) il (¬ p_whV (M 6) il t = -1) 1 t := ⟨_, rfl⟩
        have ht1 : t1.2.1 ≤ il := by rw [d1]; exact PE_chk ht
        have hb1 := tok_b (M 6) ht1 bil
        refine J_wq (congrArg (fun z => mdW G m (pX M il z)) ((p_chk_ite _ _ _).trans d1.symm)) ?_
        refine J_pop hC dX11_weatherHere_56 rfl ?_
        refine J_aload_n hC dX11_weatherHere_57 1 rfl rfl ?_
        refine J_callVv hC dX11_weatherHere_58 wl_X11_192 yi_X11_next (c_X11_next _ G m il M t1 hil bil hfi ht1) rfl rfl 0 11 rfl rfl ⟨Nat.le_of_ble_eq_true rfl, Nat.le_of_ble_eq_true rfl⟩ (Nat.le_of_ble_eq_true rfl) (Nat.le_of_ble_eq_true rfl) (Nat.le_of_ble_eq_true rfl) (fun _ _ => ?_)
        obtain ⟨t2, d2⟩ : ∃ z, z = p_nxt (M 6) il t1 := ⟨_, rfl⟩
        have ht2 : t2.2.1 ≤ il := by rw [d2]; exact PE_nxt ht1
        have hb2 := tok_b (M 6) ht2 bil
        refine J_wq (congrArg (fun z => mdW G m (pX M il z)) d2.symm) ?_
        refine J_iload_n hC dX11_weatherHere_61 0 rfl rfl ?_
        refine J_iret hC hR dX11_weatherHere_62 rfl () ?_ ?_ (by decide) (by decide)
        · rfl
        · exact congrArg (fun z => mdW G m (pX M il z)) (by rw [d2, d1]; try rfl)
      refine J_iload_n hC dX11_weatherHere_42 0 rfl rfl ?_
      refine J_iconst (v := (-1)) hC dX11_weatherHere_43 rfl ?_
      refine J_ic_eq (tgt := 51) hC dX11_weatherHere_44 (by decide) (fun (c_44 : (p_whV (M 6) il t) = (-1)) => ?_) (fun (c_44 : ¬ (p_whV (M 6) il t) = (-1)) => ?_)
      · refine J_iconst (v := 0) hC dX11_weatherHere_51 rfl ?_
        refine J_topi (show (0 : Int32) = (if ¬ p_whV (M 6) il t = -1 then 1 else 0) from (if_neg (fun h => h c_44)).symm) ?_
        exact j_52
      · refine J_iconst (v := 1) hC dX11_weatherHere_47 rfl ?_
        refine J_goto (tgt := 52) hC dX11_weatherHere_48 (by decide) ?_
        refine J_topi (show (1 : Int32) = (if ¬ p_whV (M 6) il t = -1 then 1 else 0) from (if_pos c_44).symm) ?_
        exact j_52
    · refine J_if_eq (tgt := 30) hC dX11_weatherHere_22 (by decide) (fun _ => ?_) (fun c => absurd (by decide) c)
      refine J_aload_n hC dX11_weatherHere_30 1 rfl rfl ?_
      refine J_ldcS (i := 17) hC (by decide) rfl rfl dX11_weatherHere_31 ?_
      refine J_callVi hC dX11_weatherHere_33 wl_X11_206 yi_X11_is (c_X11_is _ G m il M t 17 hil bil hfi ht (by decide)) rfl rfl 0 11 rfl rfl ⟨Nat.le_of_ble_eq_true rfl, Nat.le_of_ble_eq_true rfl⟩ (Nat.le_of_ble_eq_true rfl) (Nat.le_of_ble_eq_true rfl) (Nat.le_of_ble_eq_true rfl) (fun r u h_33 => ?_)
      rcases h_33 with ⟨rfl, c_33⟩ | ⟨rfl, c_33⟩
      · refine J_if_eq (tgt := 41) hC dX11_weatherHere_36 (by decide) (fun c => absurd c (by decide)) (fun _ => ?_)
        refine J_iconst (v := 2) hC dX11_weatherHere_39 rfl ?_
        refine J_istore_n hC [(1, .int 2), (0, .ref (m 0))] dX11_weatherHere_40 rfl (by decide) rfl ?_
        have eV := (show p_whV (M 6) il t = 2 from by rw [p_whV, if_neg c_5, if_neg c_19, if_pos c_33])
        refine J_lvq (lv' := [(1, .int (p_whV (M 6) il t)), (0, .ref (m 0))]) (by rw [eV]) ?_
        refine J_aload_n hC dX11_weatherHere_41 1 rfl rfl ?_
        have j_52 : J x G (mdW G m (pX M il t)) 0 0 [(1, .int (p_whV (M 6) il t)), (0, .ref (m 0))] [.int (if ¬ p_whV (M 6) il t = -1 then 1 else 0), .ref (m 0)] 52 := by
          refine J_iconst (v := 1) hC dX11_weatherHere_52 rfl ?_
          refine J_callVi hC dX11_weatherHere_53 wl_X11_185 yi_X11_check (c_X11_check _ G m il M t (if ¬ p_whV (M 6) il t = -1 then 1 else 0) 1 hil bil hfi ht) rfl rfl 0 11 rfl rfl ⟨Nat.le_of_ble_eq_true rfl, Nat.le_of_ble_eq_true rfl⟩ (Nat.le_of_ble_eq_true rfl) (Nat.le_of_ble_eq_true rfl) (Nat.le_of_ble_eq_true rfl) (fun r u _ => ?_)
          obtain ⟨t1, d1⟩ : ∃ z, z = p_chk (M 6) il (¬ p_whV (M 6) il t = -1) 1 t := ⟨_, rfl⟩
          have ht1 : t1.2.1 ≤ il := by rw [d1]; exact PE_chk ht
          have hb1 := tok_b (M 6) ht1 bil
          refine J_wq (congrArg (fun z => mdW G m (pX M il z)) ((p_chk_ite _ _ _).trans d1.symm)) ?_
          refine J_pop hC dX11_weatherHere_56 rfl ?_
          refine J_aload_n hC dX11_weatherHere_57 1 rfl rfl ?_
          refine J_callVv hC dX11_weatherHere_58 wl_X11_192 yi_X11_next (c_X11_next _ G m il M t1 hil bil hfi ht1) rfl rfl 0 11 rfl rfl ⟨Nat.le_of_ble_eq_true rfl, Nat.le_of_ble_eq_true rfl⟩ (Nat.le_of_ble_eq_true rfl) (Nat.le_of_ble_eq_true rfl) (Nat.le_of_ble_eq_true rfl) (fun _ _ => ?_)
          obtain ⟨t2, d2⟩ : ∃ z, z = p_nxt (M 6) il t1 := ⟨_, rfl⟩
          have ht2 : t2.2.1 ≤ il := by rw [d2]; exact PE_nxt ht1
          have hb2 := tok_b (M 6) ht2 bil
          refine J_wq (congrArg (fun z => mdW G m (pX M il z)) d2.symm) ?_
          refine J_iload_n hC dX11_weatherHere_61 0 rfl rfl ?_
          refine J_iret hC hR dX11_weatherHere_62 rfl () ?_ ?_ (by decide) (by decide)
          · rfl
          · exact congrArg (fun z => mdW G m (pX M il z)) (by rw [d2, d1]; try rfl)
        refine J_iload_n hC dX11_weatherHere_42 0 rfl rfl ?_
        refine J_iconst (v := (-1)) hC dX11_weatherHere_43 rfl ?_
        refine J_ic_eq (tgt := 51) hC dX11_weatherHere_44 (by decide) (fun (c_44 : (p_whV (M 6) il t) = (-1)) => ?_) (fun (c_44 : ¬ (p_whV (M 6) il t) = (-1)) => ?_)
        · refine J_iconst (v := 0) hC dX11_weatherHere_51 rfl ?_
          refine J_topi (show (0 : Int32) = (if ¬ p_whV (M 6) il t = -1 then 1 else 0) from (if_neg (fun h => h c_44)).symm) ?_
          exact j_52
        · refine J_iconst (v := 1) hC dX11_weatherHere_47 rfl ?_
          refine J_goto (tgt := 52) hC dX11_weatherHere_48 (by decide) ?_
          refine J_topi (show (1 : Int32) = (if ¬ p_whV (M 6) il t = -1 then 1 else 0) from (if_pos c_44).symm) ?_
          exact j_52
      · refine J_if_eq (tgt := 41) hC dX11_weatherHere_36 (by decide) (fun _ => ?_) (fun c => absurd (by decide) c)
        have eV := (show p_whV (M 6) il t = -1 from by rw [p_whV, if_neg c_5, if_neg c_19, if_neg c_33])
        refine J_lvq (lv' := [(1, .int (p_whV (M 6) il t)), (0, .ref (m 0))]) (by rw [eV]) ?_
        refine J_aload_n hC dX11_weatherHere_41 1 rfl rfl ?_
        have j_52 : J x G (mdW G m (pX M il t)) 0 0 [(1, .int (p_whV (M 6) il t)), (0, .ref (m 0))] [.int (if ¬ p_whV (M 6) il t = -1 then 1 else 0), .ref (m 0)] 52 := by
          refine J_iconst (v := 1) hC dX11_weatherHere_52 rfl ?_
          refine J_callVi hC dX11_weatherHere_53 wl_X11_185 yi_X11_check (c_X11_check _ G m il M t (if ¬ p_whV (M 6) il t = -1 then 1 else 0) 1 hil bil hfi ht) rfl rfl 0 11 rfl rfl ⟨Nat.le_of_ble_eq_true rfl, Nat.le_of_ble_eq_true rfl⟩ (Nat.le_of_ble_eq_true rfl) (Nat.le_of_ble_eq_true rfl) (Nat.le_of_ble_eq_true rfl) (fun r u _ => ?_)
          obtain ⟨t1, d1⟩ : ∃ z, z = p_chk (M 6) il (¬ p_whV (M 6) il t = -1) 1 t := ⟨_, rfl⟩
          have ht1 : t1.2.1 ≤ il := by rw [d1]; exact PE_chk ht
          have hb1 := tok_b (M 6) ht1 bil
          refine J_wq (congrArg (fun z => mdW G m (pX M il z)) ((p_chk_ite _ _ _).trans d1.symm)) ?_
          refine J_pop hC dX11_weatherHere_56 rfl ?_
          refine J_aload_n hC dX11_weatherHere_57 1 rfl rfl ?_
          refine J_callVv hC dX11_weatherHere_58 wl_X11_192 yi_X11_next (c_X11_next _ G m il M t1 hil bil hfi ht1) rfl rfl 0 11 rfl rfl ⟨Nat.le_of_ble_eq_true rfl, Nat.le_of_ble_eq_true rfl⟩ (Nat.le_of_ble_eq_true rfl) (Nat.le_of_ble_eq_true rfl) (Nat.le_of_ble_eq_true rfl) (fun _ _ => ?_)
          obtain ⟨t2, d2⟩ : ∃ z, z = p_nxt (M 6) il t1 := ⟨_, rfl⟩
          have ht2 : t2.2.1 ≤ il := by rw [d2]; exact PE_nxt ht1
          have hb2 := tok_b (M 6) ht2 bil
          refine J_wq (congrArg (fun z => mdW G m (pX M il z)) d2.symm) ?_
          refine J_iload_n hC dX11_weatherHere_61 0 rfl rfl ?_
          refine J_iret hC hR dX11_weatherHere_62 rfl () ?_ ?_ (by decide) (by decide)
          · rfl
          · exact congrArg (fun z => mdW G m (pX M il z)) (by rw [d2, d1]; try rfl)
        refine J_iload_n hC dX11_weatherHere_42 0 rfl rfl ?_
        refine J_iconst (v := (-1)) hC dX11_weatherHere_43 rfl ?_
        refine J_ic_eq (tgt := 51) hC dX11_weatherHere_44 (by decide) (fun (c_44 : (p_whV (M 6) il t) = (-1)) => ?_) (fun (c_44 : ¬ (p_whV (M 6) il t) = (-1)) => ?_)
        · refine J_iconst (v := 0) hC dX11_weatherHere_51 rfl ?_
          refine J_topi (show (0 : Int32) = (if ¬ p_whV (M 6) il t = -1 then 1 else 0) from (if_neg (fun h => h c_44)).symm) ?_
          exact j_52
        · refine J_iconst (v := 1) hC dX11_weatherHere_47 rfl ?_
          refine J_goto (tgt := 52) hC dX11_weatherHere_48 (by decide) ?_
          refine J_topi (show (1 : Int32) = (if ¬ p_whV (M 6) il t = -1 then 1 else 0) from (if_pos c_44).symm) ?_
          exact j_52

theorem m_addV_st (g : RT) (nm pe tr : Int32) (vc : Nat) (h : g 6 = nI vc) : upd (upd (upd (upd g (24 + 3 * vc) nm) (24 + 3 * vc + 1) pe) (24 + 3 * vc + 2) tr) 6 (upd (upd (upd g (24 + 3 * vc) nm) (24 + 3 * vc + 1) pe) (24 + 3 * vc + 2) tr 6 + 1) = m_addV g nm pe tr vc := by
  rw [m_addV, pk_un (show 6 ≠ 24 + 3 * vc + 2 by omega), pk_un (show 6 ≠ 24 + 3 * vc + 1 by omega), pk_un (show 6 ≠ 24 + 3 * vc by omega), h, show nI vc + 1 = nI (vc + 1) from nI_add vc 1, show 24 + 3 * vc + 1 = 25 + 3 * vc by omega, show 24 + 3 * vc + 2 = 26 + 3 * vc by omega]
theorem m_addF_stN (g : RT) (nm vi pe st pr : Int32) (fc : Nat) : upd (upd (upd (upd (upd (upd g (42 + 5 * fc) nm) (42 + 5 * fc + 1) vi) (42 + 5 * fc + 2) pe) (42 + 5 * fc + 3) st) (42 + 5 * fc + 4) pr) 7 (nI (fc + 1)) = m_addF g nm vi pe st pr fc := by
  rw [m_addF, show 42 + 5 * fc + 1 = 43 + 5 * fc by omega, show 42 + 5 * fc + 2 = 44 + 5 * fc by omega, show 42 + 5 * fc + 3 = 45 + 5 * fc by omega, show 42 + 5 * fc + 4 = 46 + 5 * fc by omega]
theorem m_addF_st (g : RT) (nm vi pe st pr : Int32) (fc : Nat) (h : g 7 = nI fc) : upd (upd (upd (upd (upd (upd g (42 + 5 * fc) nm) (42 + 5 * fc + 1) vi) (42 + 5 * fc + 2) pe) (42 + 5 * fc + 3) st) (42 + 5 * fc + 4) pr) 7 (upd (upd (upd (upd (upd g (42 + 5 * fc) nm) (42 + 5 * fc + 1) vi) (42 + 5 * fc + 2) pe) (42 + 5 * fc + 3) st) (42 + 5 * fc + 4) pr 7 + 1) = m_addF g nm vi pe st pr fc := by
  rw [m_addF, pk_un (show 7 ≠ 42 + 5 * fc + 4 by omega), pk_un (show 7 ≠ 42 + 5 * fc + 3 by omega), pk_un (show 7 ≠ 42 + 5 * fc + 2 by omega), pk_un (show 7 ≠ 42 + 5 * fc + 1 by omega), pk_un (show 7 ≠ 42 + 5 * fc by omega), h, show nI fc + 1 = nI (fc + 1) from nI_add fc 1, show 42 + 5 * fc + 1 = 43 + 5 * fc by omega, show 42 + 5 * fc + 2 = 44 + 5 * fc by omega, show 42 + 5 * fc + 3 = 45 + 5 * fc by omega, show 42 + 5 * fc + 4 = 46 + 5 * fc by omega]

set_option maxRecDepth 100000 in
set_option maxHeartbeats 4000000 in
theorem c_X11_readVillage (l : Launch) (G : gT) (m : Nat → Nat) (il : Nat) (M : CT) (t : PS RT) (hil : M 8 3 = nI il) (bil : il ≤ 600) (hfi : ∀ j, j < il → ¬ M 6 j = -1) (hp : PI il t) : MV l yX11_readVillage cX11_readVillage 5 { frames := 5, cells := 0, slots := 0, locals := 106 } [.ref (m 0)] G (mdW G m (pX M il t)) (fun (_ : Unit) => True) (fun _ => mdW G m (pX M il (p_rv (M 6) il t))) := by
  refine jm_v (own := RX11) (by decide) rfl (Nat.le_of_ble_eq_true rfl) (fun x hl hC hR hN => ?_)
  subst hl
  have hb0 := tok_b (M 6) hp.1 bil
  refine J_aload_n hC dX11_readVillage_0 0 rfl rfl ?_
  have j_18 : J x G (mdW G m (pX M il t)) 0 0 [(0, .ref (m 0))] [.int (if t.1 6 < 6 then 1 else 0), .ref (m 0)] 18 := by
    refine J_iconst (v := 5) hC dX11_readVillage_18 rfl ?_
    refine J_callVi hC dX11_readVillage_19 wl_X11_185 yi_X11_check (c_X11_check _ G m il M t (if t.1 6 < 6 then 1 else 0) 5 hil bil hfi hp.1) rfl rfl 0 11 rfl rfl ⟨Nat.le_of_ble_eq_true rfl, Nat.le_of_ble_eq_true rfl⟩ (Nat.le_of_ble_eq_true rfl) (Nat.le_of_ble_eq_true rfl) (Nat.le_of_ble_eq_true rfl) (fun r u _ => ?_)
    obtain ⟨t1, d1⟩ : ∃ z, z = p_chk (M 6) il (t.1 6 < 6) 5 t := ⟨_, rfl⟩
    have ht1 : t1.2.1 ≤ il := by rw [d1]; exact PE_chk hp.1
    have hp1 : PI il t1 := by rw [d1]; exact PI_chk (by decide) hp
    have hb1 := tok_b (M 6) ht1 bil
    refine J_wq (congrArg (fun z => mdW G m (pX M il z)) ((p_chk_ite _ _ _).trans d1.symm)) ?_
    refine J_pop hC dX11_readVillage_22 rfl ?_
    refine J_aload_n hC dX11_readVillage_23 0 rfl rfl ?_
    refine J_callVv hC dX11_readVillage_24 wl_X11_192 yi_X11_next (c_X11_next _ G m il M t1 hil bil hfi ht1) rfl rfl 0 11 rfl rfl ⟨Nat.le_of_ble_eq_true rfl, Nat.le_of_ble_eq_true rfl⟩ (Nat.le_of_ble_eq_true rfl) (Nat.le_of_ble_eq_true rfl) (Nat.le_of_ble_eq_true rfl) (fun _ _ => ?_)
    obtain ⟨t2, d2⟩ : ∃ z, z = p_nxt (M 6) il t1 := ⟨_, rfl⟩
    have ht2 : t2.2.1 ≤ il := by rw [d2]; exact PE_nxt ht1
    have hp2 : PI il t2 := by rw [d2]; exact PI_nxt hp1
    have hb2 := tok_b (M 6) ht2 bil
    have s2 : t2 = p_v1 (M 6) il t := by rw [d2, d1]; rfl
    refine J_wq (congrArg (fun z => mdW G m (pX M il z)) d2.symm) ?_
    refine J_aload_n hC dX11_readVillage_27 0 rfl rfl ?_
    refine J_callVi hC dX11_readVillage_28 wl_X11_214 yi_X11_newName (c_X11_newName _ G m il M t2 hil bil hfi hp2) rfl rfl 0 11 rfl rfl ⟨Nat.le_of_ble_eq_true rfl, Nat.le_of_ble_eq_true rfl⟩ (Nat.le_of_ble_eq_true rfl) (Nat.le_of_ble_eq_true rfl) (Nat.le_of_ble_eq_true rfl) (fun r u h_28 => ?_)
    subst h_28
    obtain ⟨t3, d3⟩ : ∃ z, z = p_nn (M 6) il t2 := ⟨_, rfl⟩
    have ht3 : t3.2.1 ≤ il := by rw [d3]; exact PE_nn ht2
    have hp3 : PI il t3 := by rw [d3]; exact PI_nn hp2
    have hb3 := tok_b (M 6) ht3 bil
    have s3 : t3 = p_v2 (M 6) il t := by rw [d3, s2]; rfl
    refine J_wq (congrArg (fun z => mdW G m (pX M il z)) d3.symm) ?_
    refine J_istore_n hC [(1, .int (p_nnV (M 6) il t2)), (0, .ref (m 0))] dX11_readVillage_31 rfl (by decide) rfl ?_
    refine J_aload_n hC dX11_readVillage_32 1 rfl rfl ?_
    refine J_iconst (v := 1) hC dX11_readVillage_33 rfl ?_
    refine J_bipush (v := 99) hC dX11_readVillage_34 (by decide +kernel) ?_
    refine J_callVi hC dX11_readVillage_36 wl_X11_217 yi_X11_number (c_X11_number _ G m il M t3 1 99 hil bil hfi ht3) rfl rfl 0 11 rfl rfl ⟨Nat.le_of_ble_eq_true rfl, Nat.le_of_ble_eq_true rfl⟩ (Nat.le_of_ble_eq_true rfl) (Nat.le_of_ble_eq_true rfl) (Nat.le_of_ble_eq_true rfl) (fun r u h_36 => ?_)
    subst h_36
    obtain ⟨t4, d4⟩ : ∃ z, z = p_num (M 6) il 1 99 t3 := ⟨_, rfl⟩
    have ht4 : t4.2.1 ≤ il := by rw [d4]; exact PE_num ht3
    have hp4 : PI il t4 := by rw [d4]; exact PI_num hp3
    have hb4 := tok_b (M 6) ht4 bil
    have s4 : t4 = p_v3 (M 6) il t := by rw [d4, s3]; rfl
    refine J_wq (congrArg (fun z => mdW G m (pX M il z)) d4.symm) ?_
    refine J_istore_n hC [(2, .int (p_lkV (M 6) il 1 99 t3)), (1, .int (p_nnV (M 6) il t2)), (0, .ref (m 0))] dX11_readVillage_39 rfl (by decide) rfl ?_
    refine J_aload_n hC dX11_readVillage_40 2 rfl rfl ?_
    refine J_iconst (v := 0) hC dX11_readVillage_41 rfl ?_
    refine J_bipush (v := 100) hC dX11_readVillage_42 (by decide +kernel) ?_
    refine J_callVi hC dX11_readVillage_44 wl_X11_217 yi_X11_number (c_X11_number _ G m il M t4 0 100 hil bil hfi ht4) rfl rfl 0 11 rfl rfl ⟨Nat.le_of_ble_eq_true rfl, Nat.le_of_ble_eq_true rfl⟩ (Nat.le_of_ble_eq_true rfl) (Nat.le_of_ble_eq_true rfl) (Nat.le_of_ble_eq_true rfl) (fun r u h_44 => ?_)
    subst h_44
    obtain ⟨t5, d5⟩ : ∃ z, z = p_num (M 6) il 0 100 t4 := ⟨_, rfl⟩
    have ht5 : t5.2.1 ≤ il := by rw [d5]; exact PE_num ht4
    have hp5 : PI il t5 := by rw [d5]; exact PI_num hp4
    have hb5 := tok_b (M 6) ht5 bil
    have s5 : t5 = p_v4 (M 6) il t := by rw [d5, s4]; rfl
    refine J_wq (congrArg (fun z => mdW G m (pX M il z)) d5.symm) ?_
    refine J_istore_n hC [(3, .int (p_lkV (M 6) il 0 100 t4)), (2, .int (p_lkV (M 6) il 1 99 t3)), (1, .int (p_nnV (M 6) il t2)), (0, .ref (m 0))] dX11_readVillage_47 rfl (by decide) rfl ?_
    refine J_aload_n hC dX11_readVillage_48 3 rfl rfl ?_
    refine J_callVv hC dX11_readVillage_49 wl_X11_220 yi_X11_finish (c_X11_finish _ G m il M t5 hil bil hfi ht5) rfl rfl 0 11 rfl rfl ⟨Nat.le_of_ble_eq_true rfl, Nat.le_of_ble_eq_true rfl⟩ (Nat.le_of_ble_eq_true rfl) (Nat.le_of_ble_eq_true rfl) (Nat.le_of_ble_eq_true rfl) (fun _ _ => ?_)
    obtain ⟨t6, d6⟩ : ∃ z, z = p_fin (M 6) il t5 := ⟨_, rfl⟩
    have ht6 : t6.2.1 ≤ il := by rw [d6]; exact PE_fin ht5
    have hp6 : PI il t6 := by rw [d6]; exact PI_fin hp5
    have hb6 := tok_b (M 6) ht6 bil
    have s6 : t6 = p_v5 (M 6) il t := by rw [d6, s5]; rfl
    refine J_wq (congrArg (fun z => mdW G m (pX M il z)) d6.symm) ?_
    refine J_aload_n hC dX11_readVillage_52 3 rfl rfl ?_
    refine J_get (v := .int t6.2.2.1) hC wu_X11 rfl dX11_readVillage_53 0 16 (by decide) wf_X11_153 rfl rfl ?_
    refine J_if_ne (tgt := 112) hC dX11_readVillage_56 (by decide) (fun (c_56 : ¬ t6.2.2.1 = 0) => ?_) (fun (c_56 : t6.2.2.1 = 0) => ?_)
    · refine J_vret hC hR dX11_readVillage_112 () ?_ ?_ (by decide) (by decide)
      · trivial
      · exact congrArg (fun z => mdW G m (pX M il z)) (by rw [p_rv, show p_v5 (M 6) il t = t6 from s6.symm, if_neg c_56])
    · have hG := hp6.2 c_56
      have hbc := hG.1.2
      have hvc := hG.2.1.2
      have hfc := hG.2.2.1.2
      have hmc := hG.2.2.2.1.2
      have hlt : m_vc t6.1 < 6 := by obtain ⟨a1, a2, a3⟩ := p_v5_l (f := M 6) (il := il) (t := t) (by rw [show p_v5 (M 6) il t = t6 from s6.symm]; exact c_56); exact lt_of_nI (n := 6) hG.2.1.1 (by omega) (by omega) (by rw [show p_v5 (M 6) il t = t6 from s6.symm] at a3; rw [a3]; exact a2)
      refine J_aload_n hC dX11_readVillage_59 3 rfl rfl ?_
      refine J_get (v := .ref (m 2)) hC wu_X11 rfl dX11_readVillage_60 0 1 (by decide) wf_X11_13 rfl rfl ?_
      refine J_bipush (v := 6) hC dX11_readVillage_63 (by decide +kernel) ?_
      refine J_iald (i := 6) (v := t6.1 6) hC dX11_readVillage_65 2 rfl (by omega) (by decide) rfl ?_
      refine J_topi hG.2.1.1 ?_
      refine J_callSi hC dX11_readVillage_66 wl_X11_81 wi_X11 yi_X11_ofVillage (c_X11_ofVillage _ G (mdW G m (pX M il t6)) (m_vc t6.1)) rfl rfl ⟨Nat.le_of_ble_eq_true rfl, Nat.le_of_ble_eq_true rfl⟩ (Nat.le_of_ble_eq_true rfl) (Nat.le_of_ble_eq_true rfl) (Nat.le_of_ble_eq_true rfl) (fun r u h_66 => ?_)
      subst h_66
      refine J_istore hC [(4, .int (nI (24 + 3 * (m_vc t6.1)))), (3, .int (p_lkV (M 6) il 0 100 t4)), (2, .int (p_lkV (M 6) il 1 99 t3)), (1, .int (p_nnV (M 6) il t2)), (0, .ref (m 0))] dX11_readVillage_69 (by decide) rfl ?_
      refine J_aload_n hC dX11_readVillage_71 4 rfl rfl ?_
      refine J_get (v := .ref (m 2)) hC wu_X11 rfl dX11_readVillage_72 0 1 (by decide) wf_X11_13 rfl rfl ?_
      refine J_iload hC dX11_readVillage_75 0 rfl ?_
      refine J_iconst (v := 0) hC dX11_readVillage_77 rfl ?_
      refine J_iadd (v := nI (24 + 3 * (m_vc t6.1))) hC dX11_readVillage_78 (Int32.add_zero _) ?_
      refine J_iload_n hC dX11_readVillage_79 3 rfl rfl ?_
      refine J_iast (i := 24 + 3 * (m_vc t6.1)) (ws' := mdW G m (pW M (upd t6.1 (24 + 3 * (m_vc t6.1)) (p_nnV (M 6) il t2)) (tE (M 6) il t6.2.1) (tS (M 6) il t6.2.1) (tK (M 6) il t6.2.1) (tV (M 6) il t6.2.1) (tL (M 6) il t6.2.1) t6.2.2.1 t6.2.2.2)) hC dX11_readVillage_80 2 rfl (by omega) (by decide) rfl ?_
      refine J_aload_n hC dX11_readVillage_81 4 rfl rfl ?_
      refine J_get (v := .ref (m 2)) hC wu_X11 rfl dX11_readVillage_82 0 1 (by decide) wf_X11_13 rfl rfl ?_
      refine J_iload hC dX11_readVillage_85 0 rfl ?_
      refine J_iconst (v := 1) hC dX11_readVillage_87 rfl ?_
      refine J_iadd (v := nI ((24 + 3 * (m_vc t6.1)) + 1)) hC dX11_readVillage_88 (nI_add (24 + 3 * (m_vc t6.1)) 1) ?_
      refine J_iload_n hC dX11_readVillage_89 2 rfl rfl ?_
      refine J_iast (i := (24 + 3 * (m_vc t6.1)) + 1) (ws' := mdW G m (pW M (upd (upd t6.1 (24 + 3 * (m_vc t6.1)) (p_nnV (M 6) il t2)) ((24 + 3 * (m_vc t6.1)) + 1) (p_lkV (M 6) il 1 99 t3)) (tE (M 6) il t6.2.1) (tS (M 6) il t6.2.1) (tK (M 6) il t6.2.1) (tV (M 6) il t6.2.1) (tL (M 6) il t6.2.1) t6.2.2.1 t6.2.2.2)) hC dX11_readVillage_90 2 rfl (by omega) (by decide) rfl ?_
      refine J_aload_n hC dX11_readVillage_91 4 rfl rfl ?_
      refine J_get (v := .ref (m 2)) hC wu_X11 rfl dX11_readVillage_92 0 1 (by decide) wf_X11_13 rfl rfl ?_
      refine J_iload hC dX11_readVillage_95 0 rfl ?_
      refine J_iconst (v := 2) hC dX11_readVillage_97 rfl ?_
      refine J_iadd (v := nI ((24 + 3 * (m_vc t6.1)) + 2)) hC dX11_readVillage_98 (nI_add (24 + 3 * (m_vc t6.1)) 2) ?_
      refine J_iload_n hC dX11_readVillage_99 1 rfl rfl ?_
      refine J_iast (i := (24 + 3 * (m_vc t6.1)) + 2) (ws' := mdW G m (pW M (upd (upd (upd t6.1 (24 + 3 * (m_vc t6.1)) (p_nnV (M 6) il t2)) ((24 + 3 * (m_vc t6.1)) + 1) (p_lkV (M 6) il 1 99 t3)) ((24 + 3 * (m_vc t6.1)) + 2) (p_lkV (M 6) il 0 100 t4)) (tE (M 6) il t6.2.1) (tS (M 6) il t6.2.1) (tK (M 6) il t6.2.1) (tV (M 6) il t6.2.1) (tL (M 6) il t6.2.1) t6.2.2.1 t6.2.2.2)) hC dX11_readVillage_100 2 rfl (by omega) (by decide) rfl ?_
      refine J_aload_n hC dX11_readVillage_101 4 rfl rfl ?_
      refine J_get (v := .ref (m 2)) hC wu_X11 rfl dX11_readVillage_102 0 1 (by decide) wf_X11_13 rfl rfl ?_
      refine J_bipush (v := 6) hC dX11_readVillage_105 (by decide +kernel) ?_
      refine J_dup2 hC dX11_readVillage_107 rfl rfl ?_
      refine J_iald (i := 6) (v := (upd (upd (upd t6.1 (24 + 3 * (m_vc t6.1)) (p_nnV (M 6) il t2)) ((24 + 3 * (m_vc t6.1)) + 1) (p_lkV (M 6) il 1 99 t3)) ((24 + 3 * (m_vc t6.1)) + 2) (p_lkV (M 6) il 0 100 t4)) 6) hC dX11_readVillage_108 2 rfl (by omega) (by decide) rfl ?_
      refine J_iconst (v := 1) hC dX11_readVillage_109 rfl ?_
      refine J_iadd (v := ((upd (upd (upd t6.1 (24 + 3 * (m_vc t6.1)) (p_nnV (M 6) il t2)) ((24 + 3 * (m_vc t6.1)) + 1) (p_lkV (M 6) il 1 99 t3)) ((24 + 3 * (m_vc t6.1)) + 2) (p_lkV (M 6) il 0 100 t4)) 6) + 1) hC dX11_readVillage_110 rfl ?_
      refine J_iast (i := 6) (ws' := mdW G m (pW M (upd (upd (upd (upd t6.1 (24 + 3 * (m_vc t6.1)) (p_nnV (M 6) il t2)) ((24 + 3 * (m_vc t6.1)) + 1) (p_lkV (M 6) il 1 99 t3)) ((24 + 3 * (m_vc t6.1)) + 2) (p_lkV (M 6) il 0 100 t4)) 6 (((upd (upd (upd t6.1 (24 + 3 * (m_vc t6.1)) (p_nnV (M 6) il t2)) ((24 + 3 * (m_vc t6.1)) + 1) (p_lkV (M 6) il 1 99 t3)) ((24 + 3 * (m_vc t6.1)) + 2) (p_lkV (M 6) il 0 100 t4)) 6) + 1)) (tE (M 6) il t6.2.1) (tS (M 6) il t6.2.1) (tK (M 6) il t6.2.1) (tV (M 6) il t6.2.1) (tL (M 6) il t6.2.1) t6.2.2.1 t6.2.2.2)) hC dX11_readVillage_111 2 rfl (by omega) (by decide) rfl ?_
      refine J_vret hC hR dX11_readVillage_112 () ?_ ?_ (by decide) (by decide)
      · trivial
      · exact (show _ = mdW G m (pX M il (upd (upd (upd (upd t6.1 (24 + 3 * (m_vc t6.1)) (p_nnV (M 6) il t2)) ((24 + 3 * (m_vc t6.1)) + 1) (p_lkV (M 6) il 1 99 t3)) ((24 + 3 * (m_vc t6.1)) + 2) (p_lkV (M 6) il 0 100 t4)) 6 (((upd (upd (upd t6.1 (24 + 3 * (m_vc t6.1)) (p_nnV (M 6) il t2)) ((24 + 3 * (m_vc t6.1)) + 1) (p_lkV (M 6) il 1 99 t3)) ((24 + 3 * (m_vc t6.1)) + 2) (p_lkV (M 6) il 0 100 t4)) 6) + 1), t6.2)) from by first | exact mdw_ur _ _ _ _ _ _ | exact congrArg (mdW G m) (pX_set M il _ t6).symm).trans (congrArg (fun z => mdW G m (pX M il z)) (by rw [p_rv, show p_v5 (M 6) il t = t6 from s6.symm, if_pos c_56, show p_v1 (M 6) il t = t2 from s2.symm, show p_v2 (M 6) il t = t3 from s3.symm, show p_v3 (M 6) il t = t4 from s4.symm, m_addV_st _ _ _ _ _ hG.2.1.1]))
  refine J_aload_n hC dX11_readVillage_1 0 rfl rfl ?_
  refine J_get (v := .ref (m 2)) hC wu_X11 rfl dX11_readVillage_2 0 1 (by decide) wf_X11_13 rfl rfl ?_
  refine J_bipush (v := 6) hC dX11_readVillage_5 (by decide +kernel) ?_
  refine J_iald (i := 6) (v := t.1 6) hC dX11_readVillage_7 2 rfl (by omega) (by decide) rfl ?_
  refine J_bipush (v := 6) hC dX11_readVillage_8 (by decide +kernel) ?_
  refine J_ic_ge (tgt := 17) hC dX11_readVillage_10 (by decide) (fun (c_10 : 6 ≤ (t.1 6)) => ?_) (fun (c_10 : ¬ 6 ≤ (t.1 6)) => ?_)
  · refine J_iconst (v := 0) hC dX11_readVillage_17 rfl ?_
    refine J_topi (show (0 : Int32) = (if t.1 6 < 6 then 1 else 0) from (if_neg (Int32.not_lt.mpr c_10)).symm) ?_
    exact j_18
  · refine J_iconst (v := 1) hC dX11_readVillage_13 rfl ?_
    refine J_goto (tgt := 18) hC dX11_readVillage_14 (by decide) ?_
    refine J_topi (show (1 : Int32) = (if t.1 6 < 6 then 1 else 0) from (if_pos (Int32.not_le.mp c_10)).symm) ?_
    exact j_18

set_option maxRecDepth 100000 in
set_option maxHeartbeats 4000000 in
theorem c_X11_readFair (l : Launch) (G : gT) (m : Nat → Nat) (il : Nat) (M : CT) (t : PS RT) (hil : M 8 3 = nI il) (bil : il ≤ 600) (hfi : ∀ j, j < il → ¬ M 6 j = -1) (hp : PI il t) : MV l yX11_readFair cX11_readFair 7 { frames := 5, cells := 0, slots := 0, locals := 106 } [.ref (m 0)] G (mdW G m (pX M il t)) (fun (_ : Unit) => True) (fun _ => mdW G m (pX M il (p_rf (M 6) il t))) := by
  refine jm_v (own := RX11) (by decide) rfl (Nat.le_of_ble_eq_true rfl) (fun x hl hC hR hN => ?_)
  subst hl
  have hb0 := tok_b (M 6) hp.1 bil
  refine J_aload_n hC dX11_readFair_0 0 rfl rfl ?_
  have j_18 : J x G (mdW G m (pX M il t)) 0 0 [(0, .ref (m 0))] [.int (if t.1 7 < 6 then 1 else 0), .ref (m 0)] 18 := by
    refine J_iconst (v := 5) hC dX11_readFair_18 rfl ?_
    refine J_callVi hC dX11_readFair_19 wl_X11_185 yi_X11_check (c_X11_check _ G m il M t (if t.1 7 < 6 then 1 else 0) 5 hil bil hfi hp.1) rfl rfl 0 11 rfl rfl ⟨Nat.le_of_ble_eq_true rfl, Nat.le_of_ble_eq_true rfl⟩ (Nat.le_of_ble_eq_true rfl) (Nat.le_of_ble_eq_true rfl) (Nat.le_of_ble_eq_true rfl) (fun r u _ => ?_)
    obtain ⟨t1, d1⟩ : ∃ z, z = p_chk (M 6) il (t.1 7 < 6) 5 t := ⟨_, rfl⟩
    have ht1 : t1.2.1 ≤ il := by rw [d1]; exact PE_chk hp.1
    have hp1 : PI il t1 := by rw [d1]; exact PI_chk (by decide) hp
    have hb1 := tok_b (M 6) ht1 bil
    refine J_wq (congrArg (fun z => mdW G m (pX M il z)) ((p_chk_ite _ _ _).trans d1.symm)) ?_
    refine J_pop hC dX11_readFair_22 rfl ?_
    refine J_aload_n hC dX11_readFair_23 0 rfl rfl ?_
    refine J_callVv hC dX11_readFair_24 wl_X11_192 yi_X11_next (c_X11_next _ G m il M t1 hil bil hfi ht1) rfl rfl 0 11 rfl rfl ⟨Nat.le_of_ble_eq_true rfl, Nat.le_of_ble_eq_true rfl⟩ (Nat.le_of_ble_eq_true rfl) (Nat.le_of_ble_eq_true rfl) (Nat.le_of_ble_eq_true rfl) (fun _ _ => ?_)
    obtain ⟨t2, d2⟩ : ∃ z, z = p_nxt (M 6) il t1 := ⟨_, rfl⟩
    have ht2 : t2.2.1 ≤ il := by rw [d2]; exact PE_nxt ht1
    have hp2 : PI il t2 := by rw [d2]; exact PI_nxt hp1
    have hb2 := tok_b (M 6) ht2 bil
    have s2 : t2 = p_f1 (M 6) il t := by rw [d2, d1]; rfl
    refine J_wq (congrArg (fun z => mdW G m (pX M il z)) d2.symm) ?_
    refine J_aload_n hC dX11_readFair_27 0 rfl rfl ?_
    refine J_callVi hC dX11_readFair_28 wl_X11_214 yi_X11_newName (c_X11_newName _ G m il M t2 hil bil hfi hp2) rfl rfl 0 11 rfl rfl ⟨Nat.le_of_ble_eq_true rfl, Nat.le_of_ble_eq_true rfl⟩ (Nat.le_of_ble_eq_true rfl) (Nat.le_of_ble_eq_true rfl) (Nat.le_of_ble_eq_true rfl) (fun r u h_28 => ?_)
    subst h_28
    obtain ⟨t3, d3⟩ : ∃ z, z = p_nn (M 6) il t2 := ⟨_, rfl⟩
    have ht3 : t3.2.1 ≤ il := by rw [d3]; exact PE_nn ht2
    have hp3 : PI il t3 := by rw [d3]; exact PI_nn hp2
    have hb3 := tok_b (M 6) ht3 bil
    have s3 : t3 = p_f2 (M 6) il t := by rw [d3, s2]; rfl
    refine J_wq (congrArg (fun z => mdW G m (pX M il z)) d3.symm) ?_
    refine J_istore_n hC [(1, .int (p_nnV (M 6) il t2)), (0, .ref (m 0))] dX11_readFair_31 rfl (by decide) rfl ?_
    refine J_aload_n hC dX11_readFair_32 1 rfl rfl ?_
    refine J_callVi hC dX11_readFair_33 wl_X11_223 yi_X11_villageHere (c_X11_villageHere _ G m il M t3 hil bil hfi hp3) rfl rfl 0 11 rfl rfl ⟨Nat.le_of_ble_eq_true rfl, Nat.le_of_ble_eq_true rfl⟩ (Nat.le_of_ble_eq_true rfl) (Nat.le_of_ble_eq_true rfl) (Nat.le_of_ble_eq_true rfl) (fun r u h_33 => ?_)
    subst h_33
    obtain ⟨t4, d4⟩ : ∃ z, z = p_vh (M 6) il t3 := ⟨_, rfl⟩
    have ht4 : t4.2.1 ≤ il := by rw [d4]; exact PE_vh ht3
    have hp4 : PI il t4 := by rw [d4]; exact PI_vh hp3
    have hb4 := tok_b (M 6) ht4 bil
    have s4 : t4 = p_f3 (M 6) il t := by rw [d4, s3]; rfl
    refine J_wq (congrArg (fun z => mdW G m (pX M il z)) d4.symm) ?_
    refine J_istore_n hC [(2, .int (p_vhV (M 6) il t3)), (1, .int (p_nnV (M 6) il t2)), (0, .ref (m 0))] dX11_readFair_36 rfl (by decide) rfl ?_
    refine J_aload_n hC dX11_readFair_37 2 rfl rfl ?_
    refine J_iconst (v := 1) hC dX11_readFair_38 rfl ?_
    refine J_bipush (v := 12) hC dX11_readFair_39 (by decide +kernel) ?_
    refine J_callVi hC dX11_readFair_41 wl_X11_217 yi_X11_number (c_X11_number _ G m il M t4 1 12 hil bil hfi ht4) rfl rfl 0 11 rfl rfl ⟨Nat.le_of_ble_eq_true rfl, Nat.le_of_ble_eq_true rfl⟩ (Nat.le_of_ble_eq_true rfl) (Nat.le_of_ble_eq_true rfl) (Nat.le_of_ble_eq_true rfl) (fun r u h_41 => ?_)
    subst h_41
    obtain ⟨t5, d5⟩ : ∃ z, z = p_num (M 6) il 1 12 t4 := ⟨_, rfl⟩
    have ht5 : t5.2.1 ≤ il := by rw [d5]; exact PE_num ht4
    have hp5 : PI il t5 := by rw [d5]; exact PI_num hp4
    have hb5 := tok_b (M 6) ht5 bil
    have s5 : t5 = p_f4 (M 6) il t := by rw [d5, s4]; rfl
    refine J_wq (congrArg (fun z => mdW G m (pX M il z)) d5.symm) ?_
    refine J_istore_n hC [(3, .int (p_lkV (M 6) il 1 12 t4)), (2, .int (p_vhV (M 6) il t3)), (1, .int (p_nnV (M 6) il t2)), (0, .ref (m 0))] dX11_readFair_44 rfl (by decide) rfl ?_
    refine J_aload_n hC dX11_readFair_45 3 rfl rfl ?_
    refine J_iconst (v := 1) hC dX11_readFair_46 rfl ?_
    refine J_bipush (v := 99) hC dX11_readFair_47 (by decide +kernel) ?_
    refine J_callVi hC dX11_readFair_49 wl_X11_217 yi_X11_number (c_X11_number _ G m il M t5 1 99 hil bil hfi ht5) rfl rfl 0 11 rfl rfl ⟨Nat.le_of_ble_eq_true rfl, Nat.le_of_ble_eq_true rfl⟩ (Nat.le_of_ble_eq_true rfl) (Nat.le_of_ble_eq_true rfl) (Nat.le_of_ble_eq_true rfl) (fun r u h_49 => ?_)
    subst h_49
    obtain ⟨t6, d6⟩ : ∃ z, z = p_num (M 6) il 1 99 t5 := ⟨_, rfl⟩
    have ht6 : t6.2.1 ≤ il := by rw [d6]; exact PE_num ht5
    have hp6 : PI il t6 := by rw [d6]; exact PI_num hp5
    have hb6 := tok_b (M 6) ht6 bil
    have s6 : t6 = p_f5 (M 6) il t := by rw [d6, s5]; rfl
    refine J_wq (congrArg (fun z => mdW G m (pX M il z)) d6.symm) ?_
    refine J_istore hC [(4, .int (p_lkV (M 6) il 1 99 t5)), (3, .int (p_lkV (M 6) il 1 12 t4)), (2, .int (p_vhV (M 6) il t3)), (1, .int (p_nnV (M 6) il t2)), (0, .ref (m 0))] dX11_readFair_52 (by decide) rfl ?_
    refine J_aload_n hC dX11_readFair_54 4 rfl rfl ?_
    refine J_iconst (v := 1) hC dX11_readFair_55 rfl ?_
    refine J_bipush (v := 20) hC dX11_readFair_56 (by decide +kernel) ?_
    refine J_callVi hC dX11_readFair_58 wl_X11_217 yi_X11_number (c_X11_number _ G m il M t6 1 20 hil bil hfi ht6) rfl rfl 0 11 rfl rfl ⟨Nat.le_of_ble_eq_true rfl, Nat.le_of_ble_eq_true rfl⟩ (Nat.le_of_ble_eq_true rfl) (Nat.le_of_ble_eq_true rfl) (Nat.le_of_ble_eq_true rfl) (fun r u h_58 => ?_)
    subst h_58
    obtain ⟨t7, d7⟩ : ∃ z, z = p_num (M 6) il 1 20 t6 := ⟨_, rfl⟩
    have ht7 : t7.2.1 ≤ il := by rw [d7]; exact PE_num ht6
    have hp7 : PI il t7 := by rw [d7]; exact PI_num hp6
    have hb7 := tok_b (M 6) ht7 bil
    have s7 : t7 = p_f6 (M 6) il t := by rw [d7, s6]; rfl
    refine J_wq (congrArg (fun z => mdW G m (pX M il z)) d7.symm) ?_
    refine J_istore hC [(5, .int (p_lkV (M 6) il 1 20 t6)), (4, .int (p_lkV (M 6) il 1 99 t5)), (3, .int (p_lkV (M 6) il 1 12 t4)), (2, .int (p_vhV (M 6) il t3)), (1, .int (p_nnV (M 6) il t2)), (0, .ref (m 0))] dX11_readFair_61 (by decide) rfl ?_
    refine J_aload_n hC dX11_readFair_63 5 rfl rfl ?_
    refine J_callVv hC dX11_readFair_64 wl_X11_220 yi_X11_finish (c_X11_finish _ G m il M t7 hil bil hfi ht7) rfl rfl 0 11 rfl rfl ⟨Nat.le_of_ble_eq_true rfl, Nat.le_of_ble_eq_true rfl⟩ (Nat.le_of_ble_eq_true rfl) (Nat.le_of_ble_eq_true rfl) (Nat.le_of_ble_eq_true rfl) (fun _ _ => ?_)
    obtain ⟨t8, d8⟩ : ∃ z, z = p_fin (M 6) il t7 := ⟨_, rfl⟩
    have ht8 : t8.2.1 ≤ il := by rw [d8]; exact PE_fin ht7
    have hp8 : PI il t8 := by rw [d8]; exact PI_fin hp7
    have hb8 := tok_b (M 6) ht8 bil
    have s8 : t8 = p_f7 (M 6) il t := by rw [d8, s7]; rfl
    refine J_wq (congrArg (fun z => mdW G m (pX M il z)) d8.symm) ?_
    refine J_aload_n hC dX11_readFair_67 5 rfl rfl ?_
    refine J_get (v := .int t8.2.2.1) hC wu_X11 rfl dX11_readFair_68 0 16 (by decide) wf_X11_153 rfl rfl ?_
    refine J_if_ne (tgt := 149) hC dX11_readFair_71 (by decide) (fun (c_71 : ¬ t8.2.2.1 = 0) => ?_) (fun (c_71 : t8.2.2.1 = 0) => ?_)
    · refine J_vret hC hR dX11_readFair_149 () ?_ ?_ (by decide) (by decide)
      · trivial
      · exact congrArg (fun z => mdW G m (pX M il z)) (by rw [p_rf, show p_f7 (M 6) il t = t8 from s8.symm, if_neg c_71])
    · have hG := hp8.2 c_71
      have hbc := hG.1.2
      have hvc := hG.2.1.2
      have hfc := hG.2.2.1.2
      have hmc := hG.2.2.2.1.2
      have hlt : m_fc t8.1 < 6 := by obtain ⟨a1, a2, a3⟩ := p_f7_l (f := M 6) (il := il) (t := t) (by rw [show p_f7 (M 6) il t = t8 from s8.symm]; exact c_71); exact lt_of_nI (n := 6) hG.2.2.1.1 (by omega) (by omega) (by rw [show p_f7 (M 6) il t = t8 from s8.symm] at a3; rw [a3]; exact a2)
      refine J_aload_n hC dX11_readFair_74 5 rfl rfl ?_
      refine J_get (v := .ref (m 2)) hC wu_X11 rfl dX11_readFair_75 0 1 (by decide) wf_X11_13 rfl rfl ?_
      refine J_bipush (v := 7) hC dX11_readFair_78 (by decide +kernel) ?_
      refine J_iald (i := 7) (v := t8.1 7) hC dX11_readFair_80 2 rfl (by omega) (by decide) rfl ?_
      refine J_topi hG.2.2.1.1 ?_
      refine J_callSi hC dX11_readFair_81 wl_X11_98 wi_X11 yi_X11_ofFair (c_X11_ofFair _ G (mdW G m (pX M il t8)) (m_fc t8.1)) rfl rfl ⟨Nat.le_of_ble_eq_true rfl, Nat.le_of_ble_eq_true rfl⟩ (Nat.le_of_ble_eq_true rfl) (Nat.le_of_ble_eq_true rfl) (Nat.le_of_ble_eq_true rfl) (fun r u h_81 => ?_)
      subst h_81
      refine J_istore hC [(6, .int (nI (42 + 5 * (m_fc t8.1)))), (5, .int (p_lkV (M 6) il 1 20 t6)), (4, .int (p_lkV (M 6) il 1 99 t5)), (3, .int (p_lkV (M 6) il 1 12 t4)), (2, .int (p_vhV (M 6) il t3)), (1, .int (p_nnV (M 6) il t2)), (0, .ref (m 0))] dX11_readFair_84 (by decide) rfl ?_
      refine J_aload_n hC dX11_readFair_86 6 rfl rfl ?_
      refine J_get (v := .ref (m 2)) hC wu_X11 rfl dX11_readFair_87 0 1 (by decide) wf_X11_13 rfl rfl ?_
      refine J_iload hC dX11_readFair_90 0 rfl ?_
      refine J_iconst (v := 0) hC dX11_readFair_92 rfl ?_
      refine J_iadd (v := nI (42 + 5 * (m_fc t8.1))) hC dX11_readFair_93 (Int32.add_zero _) ?_
      refine J_iload_n hC dX11_readFair_94 5 rfl rfl ?_
      refine J_iast (i := 42 + 5 * (m_fc t8.1)) (ws' := mdW G m (pW M (upd t8.1 (42 + 5 * (m_fc t8.1)) (p_nnV (M 6) il t2)) (tE (M 6) il t8.2.1) (tS (M 6) il t8.2.1) (tK (M 6) il t8.2.1) (tV (M 6) il t8.2.1) (tL (M 6) il t8.2.1) t8.2.2.1 t8.2.2.2)) hC dX11_readFair_95 2 rfl (by omega) (by decide) rfl ?_
      obtain ⟨T1, hT1⟩ : ∃ z, z = upd t8.1 (42 + 5 * (m_fc t8.1)) (p_nnV (M 6) il t2) := ⟨_, rfl⟩
      have hT1j : T1 7 = nI (m_fc t8.1) := by rw [hT1, pk_un (by omega)]; exact hG.2.2.1.1
      refine J_wq (congrArg (fun z => mdW G m (pW M z (tE (M 6) il t8.2.1) (tS (M 6) il t8.2.1) (tK (M 6) il t8.2.1) (tV (M 6) il t8.2.1) (tL (M 6) il t8.2.1) t8.2.2.1 t8.2.2.2)) hT1.symm) ?_
      refine J_aload_n hC dX11_readFair_96 6 rfl rfl ?_
      refine J_get (v := .ref (m 2)) hC wu_X11 rfl dX11_readFair_97 0 1 (by decide) wf_X11_13 rfl rfl ?_
      refine J_iload hC dX11_readFair_100 0 rfl ?_
      refine J_iconst (v := 1) hC dX11_readFair_102 rfl ?_
      refine J_iadd (v := nI ((42 + 5 * (m_fc t8.1)) + 1)) hC dX11_readFair_103 (nI_add (42 + 5 * (m_fc t8.1)) 1) ?_
      refine J_iload_n hC dX11_readFair_104 4 rfl rfl ?_
      refine J_iast (i := (42 + 5 * (m_fc t8.1)) + 1) (ws' := mdW G m (pW M (upd T1 ((42 + 5 * (m_fc t8.1)) + 1) (p_vhV (M 6) il t3)) (tE (M 6) il t8.2.1) (tS (M 6) il t8.2.1) (tK (M 6) il t8.2.1) (tV (M 6) il t8.2.1) (tL (M 6) il t8.2.1) t8.2.2.1 t8.2.2.2)) hC dX11_readFair_105 2 rfl (by omega) (by decide) rfl ?_
      obtain ⟨T2, hT2⟩ : ∃ z, z = upd T1 ((42 + 5 * (m_fc t8.1)) + 1) (p_vhV (M 6) il t3) := ⟨_, rfl⟩
      have hT2j : T2 7 = nI (m_fc t8.1) := by rw [hT2, pk_un (by omega)]; exact hT1j
      refine J_wq (congrArg (fun z => mdW G m (pW M z (tE (M 6) il t8.2.1) (tS (M 6) il t8.2.1) (tK (M 6) il t8.2.1) (tV (M 6) il t8.2.1) (tL (M 6) il t8.2.1) t8.2.2.1 t8.2.2.2)) hT2.symm) ?_
      refine J_aload_n hC dX11_readFair_106 6 rfl rfl ?_
      refine J_get (v := .ref (m 2)) hC wu_X11 rfl dX11_readFair_107 0 1 (by decide) wf_X11_13 rfl rfl ?_
      refine J_iload hC dX11_readFair_110 0 rfl ?_
      refine J_iconst (v := 2) hC dX11_readFair_112 rfl ?_
      refine J_iadd (v := nI ((42 + 5 * (m_fc t8.1)) + 2)) hC dX11_readFair_113 (nI_add (42 + 5 * (m_fc t8.1)) 2) ?_
      refine J_iload_n hC dX11_readFair_114 3 rfl rfl ?_
      refine J_iast (i := (42 + 5 * (m_fc t8.1)) + 2) (ws' := mdW G m (pW M (upd T2 ((42 + 5 * (m_fc t8.1)) + 2) (p_lkV (M 6) il 1 12 t4)) (tE (M 6) il t8.2.1) (tS (M 6) il t8.2.1) (tK (M 6) il t8.2.1) (tV (M 6) il t8.2.1) (tL (M 6) il t8.2.1) t8.2.2.1 t8.2.2.2)) hC dX11_readFair_115 2 rfl (by omega) (by decide) rfl ?_
      obtain ⟨T3, hT3⟩ : ∃ z, z = upd T2 ((42 + 5 * (m_fc t8.1)) + 2) (p_lkV (M 6) il 1 12 t4) := ⟨_, rfl⟩
      have hT3j : T3 7 = nI (m_fc t8.1) := by rw [hT3, pk_un (by omega)]; exact hT2j
      refine J_wq (congrArg (fun z => mdW G m (pW M z (tE (M 6) il t8.2.1) (tS (M 6) il t8.2.1) (tK (M 6) il t8.2.1) (tV (M 6) il t8.2.1) (tL (M 6) il t8.2.1) t8.2.2.1 t8.2.2.2)) hT3.symm) ?_
      refine J_aload_n hC dX11_readFair_116 6 rfl rfl ?_
      refine J_get (v := .ref (m 2)) hC wu_X11 rfl dX11_readFair_117 0 1 (by decide) wf_X11_13 rfl rfl ?_
      refine J_iload hC dX11_readFair_120 0 rfl ?_
      refine J_iconst (v := 3) hC dX11_readFair_122 rfl ?_
      refine J_iadd (v := nI ((42 + 5 * (m_fc t8.1)) + 3)) hC dX11_readFair_123 (nI_add (42 + 5 * (m_fc t8.1)) 3) ?_
      refine J_iload hC dX11_readFair_124 2 rfl ?_
      refine J_iast (i := (42 + 5 * (m_fc t8.1)) + 3) (ws' := mdW G m (pW M (upd T3 ((42 + 5 * (m_fc t8.1)) + 3) (p_lkV (M 6) il 1 99 t5)) (tE (M 6) il t8.2.1) (tS (M 6) il t8.2.1) (tK (M 6) il t8.2.1) (tV (M 6) il t8.2.1) (tL (M 6) il t8.2.1) t8.2.2.1 t8.2.2.2)) hC dX11_readFair_126 2 rfl (by omega) (by decide) rfl ?_
      obtain ⟨T4, hT4⟩ : ∃ z, z = upd T3 ((42 + 5 * (m_fc t8.1)) + 3) (p_lkV (M 6) il 1 99 t5) := ⟨_, rfl⟩
      have hT4j : T4 7 = nI (m_fc t8.1) := by rw [hT4, pk_un (by omega)]; exact hT3j
      refine J_wq (congrArg (fun z => mdW G m (pW M z (tE (M 6) il t8.2.1) (tS (M 6) il t8.2.1) (tK (M 6) il t8.2.1) (tV (M 6) il t8.2.1) (tL (M 6) il t8.2.1) t8.2.2.1 t8.2.2.2)) hT4.symm) ?_
      refine J_aload_n hC dX11_readFair_127 6 rfl rfl ?_
      refine J_get (v := .ref (m 2)) hC wu_X11 rfl dX11_readFair_128 0 1 (by decide) wf_X11_13 rfl rfl ?_
      refine J_iload hC dX11_readFair_131 0 rfl ?_
      refine J_iconst (v := 4) hC dX11_readFair_133 rfl ?_
      refine J_iadd (v := nI ((42 + 5 * (m_fc t8.1)) + 4)) hC dX11_readFair_134 (nI_add (42 + 5 * (m_fc t8.1)) 4) ?_
      refine J_iload hC dX11_readFair_135 1 rfl ?_
      refine J_iast (i := (42 + 5 * (m_fc t8.1)) + 4) (ws' := mdW G m (pW M (upd T4 ((42 + 5 * (m_fc t8.1)) + 4) (p_lkV (M 6) il 1 20 t6)) (tE (M 6) il t8.2.1) (tS (M 6) il t8.2.1) (tK (M 6) il t8.2.1) (tV (M 6) il t8.2.1) (tL (M 6) il t8.2.1) t8.2.2.1 t8.2.2.2)) hC dX11_readFair_137 2 rfl (by omega) (by decide) rfl ?_
      obtain ⟨T5, hT5⟩ : ∃ z, z = upd T4 ((42 + 5 * (m_fc t8.1)) + 4) (p_lkV (M 6) il 1 20 t6) := ⟨_, rfl⟩
      have hT5j : T5 7 = nI (m_fc t8.1) := by rw [hT5, pk_un (by omega)]; exact hT4j
      refine J_wq (congrArg (fun z => mdW G m (pW M z (tE (M 6) il t8.2.1) (tS (M 6) il t8.2.1) (tK (M 6) il t8.2.1) (tV (M 6) il t8.2.1) (tL (M 6) il t8.2.1) t8.2.2.1 t8.2.2.2)) hT5.symm) ?_
      refine J_aload_n hC dX11_readFair_138 6 rfl rfl ?_
      refine J_get (v := .ref (m 2)) hC wu_X11 rfl dX11_readFair_139 0 1 (by decide) wf_X11_13 rfl rfl ?_
      refine J_bipush (v := 7) hC dX11_readFair_142 (by decide +kernel) ?_
      refine J_dup2 hC dX11_readFair_144 rfl rfl ?_
      refine J_iald (i := 7) (v := T5 7) hC dX11_readFair_145 2 rfl (by omega) (by decide) rfl ?_
      refine J_topi hT5j ?_
      refine J_iconst (v := 1) hC dX11_readFair_146 rfl ?_
      refine J_iadd (v := nI ((m_fc t8.1) + 1)) hC dX11_readFair_147 (nI_add (m_fc t8.1) 1) ?_
      refine J_iast (i := 7) (ws' := mdW G m (pW M (upd T5 7 (nI ((m_fc t8.1) + 1))) (tE (M 6) il t8.2.1) (tS (M 6) il t8.2.1) (tK (M 6) il t8.2.1) (tV (M 6) il t8.2.1) (tL (M 6) il t8.2.1) t8.2.2.1 t8.2.2.2)) hC dX11_readFair_148 2 rfl (by omega) (by decide) rfl ?_
      refine J_vret hC hR dX11_readFair_149 () ?_ ?_ (by decide) (by decide)
      · trivial
      · exact (show _ = mdW G m (pX M il (upd T5 7 (nI ((m_fc t8.1) + 1)), t8.2)) from by first | exact mdw_ur _ _ _ _ _ _ | exact congrArg (mdW G m) (pX_set M il _ t8).symm).trans (congrArg (fun z => mdW G m (pX M il z)) (by rw [p_rf, show p_f7 (M 6) il t = t8 from s8.symm, if_pos c_71, show p_f1 (M 6) il t = t2 from s2.symm, show p_f2 (M 6) il t = t3 from s3.symm, show p_f3 (M 6) il t = t4 from s4.symm, show p_f4 (M 6) il t = t5 from s5.symm, show p_f5 (M 6) il t = t6 from s6.symm, hT5, hT4, hT3, hT2, hT1, m_addF_stN _ _ _ _ _ _ _]))
  refine J_aload_n hC dX11_readFair_1 0 rfl rfl ?_
  refine J_get (v := .ref (m 2)) hC wu_X11 rfl dX11_readFair_2 0 1 (by decide) wf_X11_13 rfl rfl ?_
  refine J_bipush (v := 7) hC dX11_readFair_5 (by decide +kernel) ?_
  refine J_iald (i := 7) (v := t.1 7) hC dX11_readFair_7 2 rfl (by omega) (by decide) rfl ?_
  refine J_bipush (v := 6) hC dX11_readFair_8 (by decide +kernel) ?_
  refine J_ic_ge (tgt := 17) hC dX11_readFair_10 (by decide) (fun (c_10 : 6 ≤ (t.1 7)) => ?_) (fun (c_10 : ¬ 6 ≤ (t.1 7)) => ?_)
  · refine J_iconst (v := 0) hC dX11_readFair_17 rfl ?_
    refine J_topi (show (0 : Int32) = (if t.1 7 < 6 then 1 else 0) from (if_neg (Int32.not_lt.mpr c_10)).symm) ?_
    exact j_18
  · refine J_iconst (v := 1) hC dX11_readFair_13 rfl ?_
    refine J_goto (tgt := 18) hC dX11_readFair_14 (by decide) ?_
    refine J_topi (show (1 : Int32) = (if t.1 7 < 6 then 1 else 0) from (if_pos (Int32.not_le.mp c_10)).symm) ?_
    exact j_18

set_option maxRecDepth 100000 in
set_option maxHeartbeats 4000000 in
theorem c_X11_readSay (l : Launch) (G : gT) (m : Nat → Nat) (il : Nat) (M : CT) (t : PS RT) (hil : M 8 3 = nI il) (bil : il ≤ 600) (hfi : ∀ j, j < il → ¬ M 6 j = -1) (hp : PI il t) : MV l yX11_readSay cX11_readSay 4 { frames := 6, cells := 0, slots := 0, locals := 128 } [.ref (m 0)] G (mdW G m (pX M il t)) (fun (_ : Unit) => True) (fun _ => mdW G m (pX M il (p_rs (M 6) il t))) := by
  refine jm_v (own := RX11) (by decide) rfl (Nat.le_of_ble_eq_true rfl) (fun x hl hC hR hN => ?_)
  subst hl
  have hb0 := tok_b (M 6) hp.1 bil
  refine J_aload_n hC dX11_readSay_0 0 rfl rfl ?_
  refine J_callVv hC dX11_readSay_1 wl_X11_192 yi_X11_next (c_X11_next _ G m il M t hil bil hfi hp.1) rfl rfl 0 11 rfl rfl ⟨Nat.le_of_ble_eq_true rfl, Nat.le_of_ble_eq_true rfl⟩ (Nat.le_of_ble_eq_true rfl) (Nat.le_of_ble_eq_true rfl) (Nat.le_of_ble_eq_true rfl) (fun _ _ => ?_)
  obtain ⟨t1, d1⟩ : ∃ z, z = p_nxt (M 6) il t := ⟨_, rfl⟩
  have ht1 : t1.2.1 ≤ il := by rw [d1]; exact PE_nxt hp.1
  have hp1 : PI il t1 := by rw [d1]; exact PI_nxt hp
  have hb1 := tok_b (M 6) ht1 bil
  have s1 : t1 = p_s1 (M 6) il t := by rw [d1]; rfl
  refine J_wq (congrArg (fun z => mdW G m (pX M il z)) d1.symm) ?_
  refine J_aload_n hC dX11_readSay_4 0 rfl rfl ?_
  refine J_callVi hC dX11_readSay_5 wl_X11_223 yi_X11_villageHere (c_X11_villageHere _ G m il M t1 hil bil hfi hp1) rfl rfl 0 11 rfl rfl ⟨Nat.le_of_ble_eq_true rfl, Nat.le_of_ble_eq_true rfl⟩ (Nat.le_of_ble_eq_true rfl) (Nat.le_of_ble_eq_true rfl) (Nat.le_of_ble_eq_true rfl) (fun r u h_5 => ?_)
  subst h_5
  obtain ⟨t2, d2⟩ : ∃ z, z = p_vh (M 6) il t1 := ⟨_, rfl⟩
  have ht2 : t2.2.1 ≤ il := by rw [d2]; exact PE_vh ht1
  have hp2 : PI il t2 := by rw [d2]; exact PI_vh hp1
  have hb2 := tok_b (M 6) ht2 bil
  have s2 : t2 = p_s2 (M 6) il t := by rw [d2, s1]; rfl
  refine J_wq (congrArg (fun z => mdW G m (pX M il z)) d2.symm) ?_
  refine J_istore_n hC [(1, .int (p_vhV (M 6) il t1)), (0, .ref (m 0))] dX11_readSay_8 rfl (by decide) rfl ?_
  refine J_aload_n hC dX11_readSay_9 1 rfl rfl ?_
  refine J_iconst (v := 0) hC dX11_readSay_10 rfl ?_
  refine J_sipush (v := 9999) hC dX11_readSay_11 (by decide +kernel) ?_
  refine J_callVi hC dX11_readSay_14 wl_X11_217 yi_X11_number (c_X11_number _ G m il M t2 0 9999 hil bil hfi ht2) rfl rfl 0 11 rfl rfl ⟨Nat.le_of_ble_eq_true rfl, Nat.le_of_ble_eq_true rfl⟩ (Nat.le_of_ble_eq_true rfl) (Nat.le_of_ble_eq_true rfl) (Nat.le_of_ble_eq_true rfl) (fun r u h_14 => ?_)
  subst h_14
  obtain ⟨t3, d3⟩ : ∃ z, z = p_num (M 6) il 0 9999 t2 := ⟨_, rfl⟩
  have ht3 : t3.2.1 ≤ il := by rw [d3]; exact PE_num ht2
  have hp3 : PI il t3 := by rw [d3]; exact PI_num hp2
  have hb3 := tok_b (M 6) ht3 bil
  have s3 : t3 = p_s3 (M 6) il t := by rw [d3, s2]; rfl
  refine J_wq (congrArg (fun z => mdW G m (pX M il z)) d3.symm) ?_
  refine J_istore_n hC [(2, .int (p_lkV (M 6) il 0 9999 t2)), (1, .int (p_vhV (M 6) il t1)), (0, .ref (m 0))] dX11_readSay_17 rfl (by decide) rfl ?_
  refine J_aload_n hC dX11_readSay_18 2 rfl rfl ?_
  refine J_callVi hC dX11_readSay_19 wl_X11_226 yi_X11_weatherHere (c_X11_weatherHere _ G m il M t3 hil bil hfi ht3) rfl rfl 0 11 rfl rfl ⟨Nat.le_of_ble_eq_true rfl, Nat.le_of_ble_eq_true rfl⟩ (Nat.le_of_ble_eq_true rfl) (Nat.le_of_ble_eq_true rfl) (Nat.le_of_ble_eq_true rfl) (fun r u h_19 => ?_)
  subst h_19
  obtain ⟨t4, d4⟩ : ∃ z, z = p_wh (M 6) il t3 := ⟨_, rfl⟩
  have ht4 : t4.2.1 ≤ il := by rw [d4]; exact PE_wh ht3
  have hp4 : PI il t4 := by rw [d4]; exact PI_wh hp3
  have hb4 := tok_b (M 6) ht4 bil
  have s4 : t4 = p_s4 (M 6) il t := by rw [d4, s3]; rfl
  refine J_wq (congrArg (fun z => mdW G m (pX M il z)) d4.symm) ?_
  refine J_istore_n hC [(3, .int (p_whV (M 6) il t3)), (2, .int (p_lkV (M 6) il 0 9999 t2)), (1, .int (p_vhV (M 6) il t1)), (0, .ref (m 0))] dX11_readSay_22 rfl (by decide) rfl ?_
  refine J_aload_n hC dX11_readSay_23 3 rfl rfl ?_
  have j_51 : J x G (mdW G m (pX M il t4)) 0 0 [(3, .int (p_whV (M 6) il t3)), (2, .int (p_lkV (M 6) il 0 9999 t2)), (1, .int (p_vhV (M 6) il t1)), (0, .ref (m 0))] [.int (if p_semi (M 6) il t4.2.1 then 1 else 0), .ref (m 0)] 51 := by
    refine J_iconst (v := 1) hC dX11_readSay_51 rfl ?_
    refine J_callVi hC dX11_readSay_52 wl_X11_185 yi_X11_check (c_X11_check _ G m il M t4 (if p_semi (M 6) il t4.2.1 then 1 else 0) 1 hil bil hfi ht4) rfl rfl 0 11 rfl rfl ⟨Nat.le_of_ble_eq_true rfl, Nat.le_of_ble_eq_true rfl⟩ (Nat.le_of_ble_eq_true rfl) (Nat.le_of_ble_eq_true rfl) (Nat.le_of_ble_eq_true rfl) (fun r u _ => ?_)
    obtain ⟨t5, d5⟩ : ∃ z, z = p_chk (M 6) il (p_semi (M 6) il t4.2.1) 1 t4 := ⟨_, rfl⟩
    have ht5 : t5.2.1 ≤ il := by rw [d5]; exact PE_chk ht4
    have hp5 : PI il t5 := by rw [d5]; exact PI_chk (by decide) hp4
    have hb5 := tok_b (M 6) ht5 bil
    have s5 : t5 = p_s5 (M 6) il t := by rw [d5, s4]; rfl
    refine J_wq (congrArg (fun z => mdW G m (pX M il z)) ((p_chk_ite _ _ _).trans d5.symm)) ?_
    refine J_pop hC dX11_readSay_55 rfl ?_
    refine J_aload_n hC dX11_readSay_56 3 rfl rfl ?_
    have j_81 : J x G (mdW G m (pX M il t5)) 0 0 [(3, .int (p_whV (M 6) il t3)), (2, .int (p_lkV (M 6) il 0 9999 t2)), (1, .int (p_vhV (M 6) il t1)), (0, .ref (m 0))] [.int (if ¬ t5.2.2.1 = 0 ∨ m_why t5.1 (p_vhV (M 6) il t1) (p_lkV (M 6) il 0 9999 t2) (m_bc t5.1) = 0 then 1 else 0), .ref (m 0)] 81 := by
      refine J_bipush (v := 6) hC dX11_readSay_81 (by decide +kernel) ?_
      refine J_callVi hC dX11_readSay_83 wl_X11_185 yi_X11_check (c_X11_check _ G m il M t5 (if ¬ t5.2.2.1 = 0 ∨ m_why t5.1 (p_vhV (M 6) il t1) (p_lkV (M 6) il 0 9999 t2) (m_bc t5.1) = 0 then 1 else 0) 6 hil bil hfi ht5) rfl rfl 0 11 rfl rfl ⟨Nat.le_of_ble_eq_true rfl, Nat.le_of_ble_eq_true rfl⟩ (Nat.le_of_ble_eq_true rfl) (Nat.le_of_ble_eq_true rfl) (Nat.le_of_ble_eq_true rfl) (fun r u _ => ?_)
      obtain ⟨t6, d6⟩ : ∃ z, z = p_chk (M 6) il (m_why t5.1 (p_vhV (M 6) il t1) (p_lkV (M 6) il 0 9999 t2) (m_bc t5.1) = 0) 6 t5 := ⟨_, rfl⟩
      have ht6 : t6.2.1 ≤ il := by rw [d6]; exact PE_chk ht5
      have hp6 : PI il t6 := by rw [d6]; exact PI_chk (by decide) hp5
      have hb6 := tok_b (M 6) ht6 bil
      have s6 : t6 = p_s6 (M 6) il t := by rw [d6, s5, s1, s2]; rfl
      refine J_wq (congrArg (fun z => mdW G m (pX M il z)) ((p_chk_iteo _ _ _).trans d6.symm)) ?_
      refine J_pop hC dX11_readSay_86 rfl ?_
      refine J_aload_n hC dX11_readSay_87 3 rfl rfl ?_
      refine J_get (v := .int t6.2.2.1) hC wu_X11 rfl dX11_readSay_88 0 16 (by decide) wf_X11_153 rfl rfl ?_
      refine J_if_ne (tgt := 112) hC dX11_readSay_91 (by decide) (fun (c_91 : ¬ t6.2.2.1 = 0) => ?_) (fun (c_91 : t6.2.2.1 = 0) => ?_)
      · obtain ⟨t7, d7⟩ : ∃ z, z = t6 := ⟨_, rfl⟩
        have s7 : t7 = p_s7 (M 6) il t := by rw [d7]; exact Eq.symm (by rw [p_s7, show p_s6 (M 6) il t = t6 from s6.symm, if_neg c_91])
        have hp7 : PI il t7 := by rw [s7]; exact PI_s7 hp
        have ht7 : t7.2.1 ≤ il := hp7.1
        have hb7 := tok_b (M 6) ht7 bil
        refine J_wq (congrArg (fun z => mdW G m (pX M il z)) d7.symm) ?_
        refine J_aload_n hC dX11_readSay_112 3 rfl rfl ?_
        refine J_callVv hC dX11_readSay_113 wl_X11_192 yi_X11_next (c_X11_next _ G m il M t7 hil bil hfi ht7) rfl rfl 0 11 rfl rfl ⟨Nat.le_of_ble_eq_true rfl, Nat.le_of_ble_eq_true rfl⟩ (Nat.le_of_ble_eq_true rfl) (Nat.le_of_ble_eq_true rfl) (Nat.le_of_ble_eq_true rfl) (fun _ _ => ?_)
        obtain ⟨t8, d8⟩ : ∃ z, z = p_nxt (M 6) il t7 := ⟨_, rfl⟩
        have ht8 : t8.2.1 ≤ il := by rw [d8]; exact PE_nxt ht7
        have hp8 : PI il t8 := by rw [d8]; exact PI_nxt hp7
        have hb8 := tok_b (M 6) ht8 bil
        refine J_wq (congrArg (fun z => mdW G m (pX M il z)) d8.symm) ?_
        refine J_vret hC hR dX11_readSay_116 () ?_ ?_ (by decide) (by decide)
        · trivial
        · exact congrArg (fun z => mdW G m (pX M il z)) (by rw [d8, s7]; try rfl)
      · have hG := hp6.2 c_91
        have hbc := hG.1.2
        have hvc := hG.2.1.2
        have hfc := hG.2.2.1.2
        have hmc := hG.2.2.2.1.2
        obtain ⟨-, hw5, -⟩ := p_chk_l (f := M 6) (il := il) (P := m_why t5.1 (p_vhV (M 6) il t1) (p_lkV (M 6) il 0 9999 t2) (m_bc t5.1) = 0) (w := 6) (t := t5) (by decide) (by rw [← d6]; exact c_91)
        have e65 : t6.1 = t5.1 := by rw [d6]; exact p_chk_g _ _ _ _ _
        have h30 := m_why0 hw5
        rw [← e65] at h30
        refine J_aload_n hC dX11_readSay_94 3 rfl rfl ?_
        refine J_get (v := .ref (m 2)) hC wu_X11 rfl dX11_readSay_95 0 1 (by decide) wf_X11_13 rfl rfl ?_
        refine J_iload_n hC dX11_readSay_98 2 rfl rfl ?_
        refine J_iload_n hC dX11_readSay_99 1 rfl rfl ?_
        refine J_iload_n hC dX11_readSay_100 0 rfl rfl ?_
        refine J_callSi hC dX11_readSay_101 wl_X11_232 wi_X11 yi_X11_prints (mdl1_i (c_X11_prints _ G (m 2) t6.1 (m_bc t6.1) (p_vhV (M 6) il t1) (p_lkV (M 6) il 0 9999 t2) (p_whV (M 6) il t3) (hG.1.1) (by omega))) rfl rfl ⟨Nat.le_of_ble_eq_true rfl, Nat.le_of_ble_eq_true rfl⟩ (Nat.le_of_ble_eq_true rfl) (Nat.le_of_ble_eq_true rfl) (Nat.le_of_ble_eq_true rfl) (fun r u h_101 => ?_)
        subst h_101
        refine J_if_geN (a := (m_bc t6.1) / 4) (tgt := 112) hC dX11_readSay_104 (by decide) (by omega) ?_
        obtain ⟨t7, d7⟩ : ∃ z, z = (m_prints t6.1 (p_vhV (M 6) il t1) (p_lkV (M 6) il 0 9999 t2) (p_whV (M 6) il t3) (m_bc t6.1), t6.2) := ⟨_, rfl⟩
        have s7 : t7 = p_s7 (M 6) il t := by rw [d7]; exact Eq.symm (by rw [p_s7, show p_s6 (M 6) il t = t6 from s6.symm, if_pos c_91, show p_s1 (M 6) il t = t1 from s1.symm, show p_s2 (M 6) il t = t2 from s2.symm, show p_s3 (M 6) il t = t3 from s3.symm])
        have hp7 : PI il t7 := by rw [s7]; exact PI_s7 hp
        have ht7 : t7.2.1 ≤ il := hp7.1
        have hb7 := tok_b (M 6) ht7 bil
        refine J_wq (show _ = mdW G m (pX M il t7) from by rw [d7]; first | exact mdw_ur _ _ _ _ _ _ | exact congrArg (mdW G m) (pX_set M il _ t6).symm) ?_
        refine J_aload_n hC dX11_readSay_112 3 rfl rfl ?_
        refine J_callVv hC dX11_readSay_113 wl_X11_192 yi_X11_next (c_X11_next _ G m il M t7 hil bil hfi ht7) rfl rfl 0 11 rfl rfl ⟨Nat.le_of_ble_eq_true rfl, Nat.le_of_ble_eq_true rfl⟩ (Nat.le_of_ble_eq_true rfl) (Nat.le_of_ble_eq_true rfl) (Nat.le_of_ble_eq_true rfl) (fun _ _ => ?_)
        obtain ⟨t8, d8⟩ : ∃ z, z = p_nxt (M 6) il t7 := ⟨_, rfl⟩
        have ht8 : t8.2.1 ≤ il := by rw [d8]; exact PE_nxt ht7
        have hp8 : PI il t8 := by rw [d8]; exact PI_nxt hp7
        have hb8 := tok_b (M 6) ht8 bil
        refine J_wq (congrArg (fun z => mdW G m (pX M il z)) d8.symm) ?_
        refine J_vret hC hR dX11_readSay_116 () ?_ ?_ (by decide) (by decide)
        · trivial
        · exact congrArg (fun z => mdW G m (pX M il z)) (by rw [d8, s7]; try rfl)
    refine J_aload_n hC dX11_readSay_57 3 rfl rfl ?_
    refine J_get (v := .int t5.2.2.1) hC wu_X11 rfl dX11_readSay_58 0 16 (by decide) wf_X11_153 rfl rfl ?_
    refine J_if_ne (tgt := 76) hC dX11_readSay_61 (by decide) (fun (c_61 : ¬ t5.2.2.1 = 0) => ?_) (fun (c_61 : t5.2.2.1 = 0) => ?_)
    · refine J_iconst (v := 1) hC dX11_readSay_76 rfl ?_
      refine J_goto (tgt := 81) hC dX11_readSay_77 (by decide) ?_
      refine J_topi (show (1 : Int32) = (if ¬ t5.2.2.1 = 0 ∨ m_why t5.1 (p_vhV (M 6) il t1) (p_lkV (M 6) il 0 9999 t2) (m_bc t5.1) = 0 then 1 else 0) from (if_pos (Or.inl c_61)).symm) ?_
      exact j_81
    · have hG := hp5.2 c_61
      have hbc := hG.1.2
      have hvc := hG.2.1.2
      have hfc := hG.2.2.1.2
      have hmc := hG.2.2.2.1.2
      refine J_aload_n hC dX11_readSay_64 3 rfl rfl ?_
      refine J_get (v := .ref (m 2)) hC wu_X11 rfl dX11_readSay_65 0 1 (by decide) wf_X11_13 rfl rfl ?_
      refine J_iload_n hC dX11_readSay_68 2 rfl rfl ?_
      refine J_iload_n hC dX11_readSay_69 1 rfl rfl ?_
      refine J_callSi hC dX11_readSay_70 wl_X11_229 wi_X11 yi_X11_whyNotPrint (mdl1_ir (c_X11_whyNotPrint _ G (m 2) t5.1 (m_bc t5.1) (p_vhV (M 6) il t1) (p_lkV (M 6) il 0 9999 t2) (hG.1.1) (by omega))) rfl rfl ⟨Nat.le_of_ble_eq_true rfl, Nat.le_of_ble_eq_true rfl⟩ (Nat.le_of_ble_eq_true rfl) (Nat.le_of_ble_eq_true rfl) (Nat.le_of_ble_eq_true rfl) (fun r u h_70 => ?_)
      subst h_70
      refine J_if_ne (tgt := 80) hC dX11_readSay_73 (by decide) (fun (c_73 : ¬ (m_why t5.1 (p_vhV (M 6) il t1) (p_lkV (M 6) il 0 9999 t2) (m_bc t5.1)) = 0) => ?_) (fun (c_73 : (m_why t5.1 (p_vhV (M 6) il t1) (p_lkV (M 6) il 0 9999 t2) (m_bc t5.1)) = 0) => ?_)
      · refine J_iconst (v := 0) hC dX11_readSay_80 rfl ?_
        refine J_topi (show (0 : Int32) = (if ¬ t5.2.2.1 = 0 ∨ m_why t5.1 (p_vhV (M 6) il t1) (p_lkV (M 6) il 0 9999 t2) (m_bc t5.1) = 0 then 1 else 0) from (if_neg (fun h => h.elim (fun z => z c_61) c_73)).symm) ?_
        exact j_81
      · refine J_iconst (v := 1) hC dX11_readSay_76 rfl ?_
        refine J_goto (tgt := 81) hC dX11_readSay_77 (by decide) ?_
        refine J_topi (show (1 : Int32) = (if ¬ t5.2.2.1 = 0 ∨ m_why t5.1 (p_vhV (M 6) il t1) (p_lkV (M 6) il 0 9999 t2) (m_bc t5.1) = 0 then 1 else 0) from (if_pos (Or.inr c_73)).symm) ?_
        exact j_81
  refine J_aload_n hC dX11_readSay_24 3 rfl rfl ?_
  refine J_get (v := .int (nI (tK (M 6) il t4.2.1))) hC wu_X11 rfl dX11_readSay_25 0 13 (by decide) wf_X11_174 rfl rfl ?_
  refine J_iconst (v := 1) hC dX11_readSay_28 rfl ?_
  refine J_ic_neN (a := tK (M 6) il t4.2.1) (b := 1) (tgt := 50) hC dX11_readSay_29 (by decide) (by omega) (by omega) (fun (c_29 : ¬ (tK (M 6) il t4.2.1) = 1) => ?_) (fun (c_29 : (tK (M 6) il t4.2.1) = 1) => ?_)
  · refine J_iconst (v := 0) hC dX11_readSay_50 rfl ?_
    refine J_topi (show (0 : Int32) = (if p_semi (M 6) il t4.2.1 then 1 else 0) from (if_neg (fun h => c_29 h.1)).symm) ?_
    exact j_51
  · have hkp := tK_pos (M 6) il t4.2.1 (by omega)
    refine J_aload_n hC dX11_readSay_32 3 rfl rfl ?_
    refine J_get (v := .ref (m 7)) hC wu_X11 rfl dX11_readSay_33 0 9 (by decide) wf_X11_29 rfl rfl ?_
    refine J_aload_n hC dX11_readSay_36 3 rfl rfl ?_
    refine J_get (v := .int (nI (tS (M 6) il t4.2.1))) hC wu_X11 rfl dX11_readSay_37 0 12 (by decide) wf_X11_165 rfl rfl ?_
    refine J_iald (i := tS (M 6) il t4.2.1) (v := M 6 (tS (M 6) il t4.2.1)) hC dX11_readSay_40 7 rfl (by omega) (by decide) rfl ?_
    refine J_bipush (v := 59) hC dX11_readSay_41 (by decide +kernel) ?_
    refine J_ic_ne (tgt := 50) hC dX11_readSay_43 (by decide) (fun (c_43 : ¬ (M 6 (tS (M 6) il t4.2.1)) = 59) => ?_) (fun (c_43 : (M 6 (tS (M 6) il t4.2.1)) = 59) => ?_)
    · refine J_iconst (v := 0) hC dX11_readSay_50 rfl ?_
      refine J_topi (show (0 : Int32) = (if p_semi (M 6) il t4.2.1 then 1 else 0) from (if_neg (fun h => c_43 h.2)).symm) ?_
      exact j_51
    · refine J_iconst (v := 1) hC dX11_readSay_46 rfl ?_
      refine J_goto (tgt := 51) hC dX11_readSay_47 (by decide) ?_
      refine J_topi (show (1 : Int32) = (if p_semi (M 6) il t4.2.1 then 1 else 0) from (if_pos ⟨c_29, c_43⟩).symm) ?_
      exact j_51

set_option maxRecDepth 100000 in
set_option maxHeartbeats 4000000 in
theorem c_X11_readRetract (l : Launch) (G : gT) (m : Nat → Nat) (il : Nat) (M : CT) (t : PS RT) (hil : M 8 3 = nI il) (bil : il ≤ 600) (hfi : ∀ j, j < il → ¬ M 6 j = -1) (hp : PI il t) : MV l yX11_readRetract cX11_readRetract 2 { frames := 5, cells := 0, slots := 0, locals := 103 } [.ref (m 0)] G (mdW G m (pX M il t)) (fun (_ : Unit) => True) (fun _ => mdW G m (pX M il (p_rr (M 6) il t))) := by
  refine jm_v (own := RX11) (by decide) rfl (Nat.le_of_ble_eq_true rfl) (fun x hl hC hR hN => ?_)
  subst hl
  have hb0 := tok_b (M 6) hp.1 bil
  refine J_aload_n hC dX11_readRetract_0 0 rfl rfl ?_
  refine J_callVv hC dX11_readRetract_1 wl_X11_192 yi_X11_next (c_X11_next _ G m il M t hil bil hfi hp.1) rfl rfl 0 11 rfl rfl ⟨Nat.le_of_ble_eq_true rfl, Nat.le_of_ble_eq_true rfl⟩ (Nat.le_of_ble_eq_true rfl) (Nat.le_of_ble_eq_true rfl) (Nat.le_of_ble_eq_true rfl) (fun _ _ => ?_)
  obtain ⟨t1, d1⟩ : ∃ z, z = p_nxt (M 6) il t := ⟨_, rfl⟩
  have ht1 : t1.2.1 ≤ il := by rw [d1]; exact PE_nxt hp.1
  have hp1 : PI il t1 := by rw [d1]; exact PI_nxt hp
  have hb1 := tok_b (M 6) ht1 bil
  have s1 : t1 = p_r1 (M 6) il t := by rw [d1]; rfl
  refine J_wq (congrArg (fun z => mdW G m (pX M il z)) d1.symm) ?_
  refine J_aload_n hC dX11_readRetract_4 0 rfl rfl ?_
  have j_18 : J x G (mdW G m (pX M il t1)) 0 0 [(0, .ref (m 0))] [.int (if tK (M 6) il t1.2.1 = 2 then 1 else 0), .ref (m 0)] 18 := by
    refine J_iconst (v := 1) hC dX11_readRetract_18 rfl ?_
    refine J_callVi hC dX11_readRetract_19 wl_X11_185 yi_X11_check (c_X11_check _ G m il M t1 (if tK (M 6) il t1.2.1 = 2 then 1 else 0) 1 hil bil hfi ht1) rfl rfl 0 11 rfl rfl ⟨Nat.le_of_ble_eq_true rfl, Nat.le_of_ble_eq_true rfl⟩ (Nat.le_of_ble_eq_true rfl) (Nat.le_of_ble_eq_true rfl) (Nat.le_of_ble_eq_true rfl) (fun r u _ => ?_)
    obtain ⟨t2, d2⟩ : ∃ z, z = p_chk (M 6) il (tK (M 6) il t1.2.1 = 2) 1 t1 := ⟨_, rfl⟩
    have ht2 : t2.2.1 ≤ il := by rw [d2]; exact PE_chk ht1
    have hp2 : PI il t2 := by rw [d2]; exact PI_chk (by decide) hp1
    have hb2 := tok_b (M 6) ht2 bil
    have s2 : t2 = p_r2 (M 6) il t := by rw [d2, s1]; rfl
    refine J_wq (congrArg (fun z => mdW G m (pX M il z)) ((p_chk_ite _ _ _).trans d2.symm)) ?_
    refine J_pop hC dX11_readRetract_22 rfl ?_
    refine J_aload_n hC dX11_readRetract_23 0 rfl rfl ?_
    have j_50 : J x G (mdW G m (pX M il t2)) 0 0 [(0, .ref (m 0))] [.int (if ¬ t2.2.2.1 = 0 ∨ tV (M 6) il t2.2.1 < nI ((m_bc t2.1 + 4 - 1) / 4) then 1 else 0), .ref (m 0)] 50 := by
      refine J_iconst (v := 4) hC dX11_readRetract_50 rfl ?_
      refine J_callVi hC dX11_readRetract_51 wl_X11_185 yi_X11_check (c_X11_check _ G m il M t2 (if ¬ t2.2.2.1 = 0 ∨ tV (M 6) il t2.2.1 < nI ((m_bc t2.1 + 4 - 1) / 4) then 1 else 0) 4 hil bil hfi ht2) rfl rfl 0 11 rfl rfl ⟨Nat.le_of_ble_eq_true rfl, Nat.le_of_ble_eq_true rfl⟩ (Nat.le_of_ble_eq_true rfl) (Nat.le_of_ble_eq_true rfl) (Nat.le_of_ble_eq_true rfl) (fun r u _ => ?_)
      obtain ⟨t3, d3⟩ : ∃ z, z = p_chk (M 6) il (tV (M 6) il t2.2.1 < nI ((m_bc t2.1 + 4 - 1) / 4)) 4 t2 := ⟨_, rfl⟩
      have ht3 : t3.2.1 ≤ il := by rw [d3]; exact PE_chk ht2
      have hp3 : PI il t3 := by rw [d3]; exact PI_chk (by decide) hp2
      have hb3 := tok_b (M 6) ht3 bil
      have s3 : t3 = p_r3 (M 6) il t := by rw [d3, s2]; rfl
      refine J_wq (congrArg (fun z => mdW G m (pX M il z)) ((p_chk_iteo _ _ _).trans d3.symm)) ?_
      refine J_pop hC dX11_readRetract_54 rfl ?_
      have j_70 : J x G (mdW G m (pX M il t3)) 0 0 [(0, .ref (m 0))] [.int (p_rV (M 6) il t)] 70 := by
        refine J_istore_n hC [(1, .int (p_rV (M 6) il t)), (0, .ref (m 0))] dX11_readRetract_70 rfl (by decide) rfl ?_
        refine J_aload_n hC dX11_readRetract_71 1 rfl rfl ?_
        have j_101 : J x G (mdW G m (pX M il t3)) 0 0 [(1, .int (p_rV (M 6) il t)), (0, .ref (m 0))] [.int (if ¬ t3.2.2.1 = 0 ∨ m_refund t3.1 (cl (p_rV (M 6) il t)) (m_bc t3.1) ≤ t3.1 4 then 1 else 0), .ref (m 0)] 101 := by
          refine J_bipush (v := 6) hC dX11_readRetract_101 (by decide +kernel) ?_
          refine J_callVi hC dX11_readRetract_103 wl_X11_185 yi_X11_check (c_X11_check _ G m il M t3 (if ¬ t3.2.2.1 = 0 ∨ m_refund t3.1 (cl (p_rV (M 6) il t)) (m_bc t3.1) ≤ t3.1 4 then 1 else 0) 6 hil bil hfi ht3) rfl rfl 0 11 rfl rfl ⟨Nat.le_of_ble_eq_true rfl, Nat.le_of_ble_eq_true rfl⟩ (Nat.le_of_ble_eq_true rfl) (Nat.le_of_ble_eq_true rfl) (Nat.le_of_ble_eq_true rfl) (fun r u _ => ?_)
          obtain ⟨t4, d4⟩ : ∃ z, z = p_chk (M 6) il (m_refund t3.1 (cl (p_rV (M 6) il t)) (m_bc t3.1) ≤ t3.1 4) 6 t3 := ⟨_, rfl⟩
          have ht4 : t4.2.1 ≤ il := by rw [d4]; exact PE_chk ht3
          have hp4 : PI il t4 := by rw [d4]; exact PI_chk (by decide) hp3
          have hb4 := tok_b (M 6) ht4 bil
          have s4 : t4 = p_r4 (M 6) il t := by rw [d4, s3]; rfl
          refine J_wq (congrArg (fun z => mdW G m (pX M il z)) ((p_chk_iteo _ _ _).trans d4.symm)) ?_
          refine J_pop hC dX11_readRetract_106 rfl ?_
          refine J_aload_n hC dX11_readRetract_107 1 rfl rfl ?_
          refine J_callVv hC dX11_readRetract_108 wl_X11_192 yi_X11_next (c_X11_next _ G m il M t4 hil bil hfi ht4) rfl rfl 0 11 rfl rfl ⟨Nat.le_of_ble_eq_true rfl, Nat.le_of_ble_eq_true rfl⟩ (Nat.le_of_ble_eq_true rfl) (Nat.le_of_ble_eq_true rfl) (Nat.le_of_ble_eq_true rfl) (fun _ _ => ?_)
          obtain ⟨t5, d5⟩ : ∃ z, z = p_nxt (M 6) il t4 := ⟨_, rfl⟩
          have ht5 : t5.2.1 ≤ il := by rw [d5]; exact PE_nxt ht4
          have hp5 : PI il t5 := by rw [d5]; exact PI_nxt hp4
          have hb5 := tok_b (M 6) ht5 bil
          refine J_wq (congrArg (fun z => mdW G m (pX M il z)) d5.symm) ?_
          refine J_aload_n hC dX11_readRetract_111 1 rfl rfl ?_
          refine J_callVv hC dX11_readRetract_112 wl_X11_220 yi_X11_finish (c_X11_finish _ G m il M t5 hil bil hfi ht5) rfl rfl 0 11 rfl rfl ⟨Nat.le_of_ble_eq_true rfl, Nat.le_of_ble_eq_true rfl⟩ (Nat.le_of_ble_eq_true rfl) (Nat.le_of_ble_eq_true rfl) (Nat.le_of_ble_eq_true rfl) (fun _ _ => ?_)
          obtain ⟨t6, d6⟩ : ∃ z, z = p_fin (M 6) il t5 := ⟨_, rfl⟩
          have ht6 : t6.2.1 ≤ il := by rw [d6]; exact PE_fin ht5
          have hp6 : PI il t6 := by rw [d6]; exact PI_fin hp5
          have hb6 := tok_b (M 6) ht6 bil
          have s6 : t6 = p_r5 (M 6) il t := by rw [d6, d5, s4]; rfl
          refine J_wq (congrArg (fun z => mdW G m (pX M il z)) d6.symm) ?_
          refine J_aload_n hC dX11_readRetract_115 1 rfl rfl ?_
          refine J_get (v := .int t6.2.2.1) hC wu_X11 rfl dX11_readRetract_116 0 16 (by decide) wf_X11_153 rfl rfl ?_
          refine J_if_ne (tgt := 138) hC dX11_readRetract_119 (by decide) (fun (c_119 : ¬ t6.2.2.1 = 0) => ?_) (fun (c_119 : t6.2.2.1 = 0) => ?_)
          · refine J_vret hC hR dX11_readRetract_138 () ?_ ?_ (by decide) (by decide)
            · trivial
            · exact congrArg (fun z => mdW G m (pX M il z)) (by rw [p_rr, show p_r5 (M 6) il t = t6 from s6.symm, if_neg c_119])
          · have hG := hp6.2 c_119
            have hbc := hG.1.2
            have hvc := hG.2.1.2
            have hfc := hG.2.2.1.2
            have hmc := hG.2.2.2.1.2
            have q3 : (p_r3 (M 6) il t).2.2.1 = 0 := by exact (p_r5_l (by rw [show p_r5 (M 6) il t = t6 from s6.symm]; exact c_119)).1
            obtain ⟨q0, q1, -⟩ := p_r3_l q3
            obtain ⟨ev, hv4⟩ := p_rV_l q3 (hp.2 q0)
            have eg : t6.1 = t.1 := by rw [s6]; exact p_r5_g
            rw [← eg] at hv4
            obtain ⟨pg, hpe⟩ : ∃ z, z = cl (p_rV (M 6) il t) := ⟨_, rfl⟩
            rw [← hpe] at ev hv4
            refine J_lvq (lv' := [(1, .int (nI pg)), (0, .ref (m 0))]) (by rw [← ev]) ?_
            refine J_aload_n hC dX11_readRetract_122 1 rfl rfl ?_
            refine J_get (v := .ref (m 2)) hC wu_X11 rfl dX11_readRetract_123 0 1 (by decide) wf_X11_13 rfl rfl ?_
            refine J_iload_n hC dX11_readRetract_126 0 rfl rfl ?_
            refine J_callSi hC dX11_readRetract_127 wl_X11_239 wi_X11 yi_X11_retracts (mdl1_i (c_X11_retracts _ G (m 2) t6.1 (m_bc t6.1) pg (hG.1.1) (by omega) (by omega) (fun k hk => by obtain ⟨w9, h9, e9⟩ := hG.2.2.2.2.1 k hk; exact ⟨w9, by omega, e9⟩))) rfl rfl ⟨Nat.le_of_ble_eq_true rfl, Nat.le_of_ble_eq_true rfl⟩ (Nat.le_of_ble_eq_true rfl) (Nat.le_of_ble_eq_true rfl) (Nat.le_of_ble_eq_true rfl) (fun r u h_127 => ?_)
            subst h_127
            refine J_if_ge (tgt := 138) hC dX11_readRetract_130 (by decide) (fun (c_130 : 0 ≤ (m_refund t6.1 pg (m_bc t6.1))) => ?_) (fun (c_130 : ¬ 0 ≤ (m_refund t6.1 pg (m_bc t6.1))) => ?_)
            · refine J_vret hC hR dX11_readRetract_138 () ?_ ?_ (by decide) (by decide)
              · trivial
              · exact (show _ = mdW G m (pX M il (m_retracts t6.1 pg (m_bc t6.1), t6.2)) from by first | exact mdw_ur _ _ _ _ _ _ | exact congrArg (mdW G m) (pX_set M il _ t6).symm).trans (congrArg (fun z => mdW G m (pX M il z)) (by rw [p_rr, show p_r5 (M 6) il t = t6 from s6.symm, if_pos c_119, ← hpe, if_pos c_130]))
            · refine J_aload_n hC dX11_readRetract_133 1 rfl rfl ?_
              refine J_iconst (v := 1) hC dX11_readRetract_134 rfl ?_
              refine J_put (ws' := mdW G m (pW M (m_retracts t6.1 pg (m_bc t6.1)) (tE (M 6) il t6.2.1) (tS (M 6) il t6.2.1) (tK (M 6) il t6.2.1) (tV (M 6) il t6.2.1) (tL (M 6) il t6.2.1) 1 t6.2.2.2)) hC wu_X11 rfl tyX11_ok nmX11 dX11_readRetract_135 0 16 (by decide) wf_X11_153 rfl rfl (Nat.le_of_ble_eq_true rfl) rfl rfl rfl ?_
              refine J_vret hC hR dX11_readRetract_138 () ?_ ?_ (by decide) (by decide)
              · trivial
              · exact (show _ = mdW G m (pX M il (m_retracts t6.1 pg (m_bc t6.1), t6.2.1, 1, t6.2.2.2)) from by first | exact mdw_ur _ _ _ _ _ _ | exact congrArg (mdW G m) (pX_set2 M il _ _ t6).symm).trans (congrArg (fun z => mdW G m (pX M il z)) (by rw [p_rr, show p_r5 (M 6) il t = t6 from s6.symm, if_pos c_119, ← hpe, if_neg c_130]))
        refine J_aload_n hC dX11_readRetract_72 1 rfl rfl ?_
        refine J_get (v := .int t3.2.2.1) hC wu_X11 rfl dX11_readRetract_73 0 16 (by decide) wf_X11_153 rfl rfl ?_
        refine J_if_ne (tgt := 96) hC dX11_readRetract_76 (by decide) (fun (c_76 : ¬ t3.2.2.1 = 0) => ?_) (fun (c_76 : t3.2.2.1 = 0) => ?_)
        · refine J_iconst (v := 1) hC dX11_readRetract_96 rfl ?_
          refine J_goto (tgt := 101) hC dX11_readRetract_97 (by decide) ?_
          refine J_topi (show (1 : Int32) = (if ¬ t3.2.2.1 = 0 ∨ m_refund t3.1 (cl (p_rV (M 6) il t)) (m_bc t3.1) ≤ t3.1 4 then 1 else 0) from (if_pos (Or.inl c_76)).symm) ?_
          exact j_101
        · have hG := hp3.2 c_76
          have hbc := hG.1.2
          have hvc := hG.2.1.2
          have hfc := hG.2.2.1.2
          have hmc := hG.2.2.2.1.2
          have q3 : (p_r3 (M 6) il t).2.2.1 = 0 := by rw [show p_r3 (M 6) il t = t3 from s3.symm]; exact c_76
          obtain ⟨q0, q1, -⟩ := p_r3_l q3
          obtain ⟨ev, hv4⟩ := p_rV_l q3 (hp.2 q0)
          have eg : t3.1 = t.1 := by rw [s3]; exact q1
          rw [← eg] at hv4
          obtain ⟨pg, hpe⟩ : ∃ z, z = cl (p_rV (M 6) il t) := ⟨_, rfl⟩
          rw [← hpe] at ev hv4
          refine J_lvq (lv' := [(1, .int (nI pg)), (0, .ref (m 0))]) (by rw [← ev]) ?_
          refine J_aload_n hC dX11_readRetract_79 1 rfl rfl ?_
          refine J_get (v := .ref (m 2)) hC wu_X11 rfl dX11_readRetract_80 0 1 (by decide) wf_X11_13 rfl rfl ?_
          refine J_iload_n hC dX11_readRetract_83 0 rfl rfl ?_
          refine J_callSi hC dX11_readRetract_84 wl_X11_84 wi_X11 yi_X11_refund (mdl1_ir (c_X11_refund _ G (m 2) t3.1 (m_bc t3.1) pg (hG.1.1) (by omega) (by omega))) rfl rfl ⟨Nat.le_of_ble_eq_true rfl, Nat.le_of_ble_eq_true rfl⟩ (Nat.le_of_ble_eq_true rfl) (Nat.le_of_ble_eq_true rfl) (Nat.le_of_ble_eq_true rfl) (fun r u h_84 => ?_)
          subst h_84
          refine J_aload_n hC dX11_readRetract_87 1 rfl rfl ?_
          refine J_get (v := .ref (m 2)) hC wu_X11 rfl dX11_readRetract_88 0 1 (by decide) wf_X11_13 rfl rfl ?_
          refine J_iconst (v := 4) hC dX11_readRetract_91 rfl ?_
          refine J_iald (i := 4) (v := t3.1 4) hC dX11_readRetract_92 2 rfl (by omega) (by decide) rfl ?_
          refine J_ic_gt (tgt := 100) hC dX11_readRetract_93 (by decide) (fun (c_93 : (t3.1 4) < (m_refund t3.1 pg (m_bc t3.1))) => ?_) (fun (c_93 : ¬ (t3.1 4) < (m_refund t3.1 pg (m_bc t3.1))) => ?_)
          · refine J_iconst (v := 0) hC dX11_readRetract_100 rfl ?_
            refine J_topi (show (0 : Int32) = (if ¬ t3.2.2.1 = 0 ∨ m_refund t3.1 (cl (p_rV (M 6) il t)) (m_bc t3.1) ≤ t3.1 4 then 1 else 0) from (by rw [← hpe]; exact (if_neg (fun h => h.elim (fun z => z c_76) (Int32.not_le.mpr c_93))).symm)) ?_
            refine J_lvq (lv' := [(1, .int (p_rV (M 6) il t)), (0, .ref (m 0))]) (by rw [ev]) ?_
            exact j_101
          · refine J_iconst (v := 1) hC dX11_readRetract_96 rfl ?_
            refine J_goto (tgt := 101) hC dX11_readRetract_97 (by decide) ?_
            refine J_topi (show (1 : Int32) = (if ¬ t3.2.2.1 = 0 ∨ m_refund t3.1 (cl (p_rV (M 6) il t)) (m_bc t3.1) ≤ t3.1 4 then 1 else 0) from (by rw [← hpe]; exact (if_pos (Or.inr (Int32.not_lt.mp c_93))).symm)) ?_
            refine J_lvq (lv' := [(1, .int (p_rV (M 6) il t)), (0, .ref (m 0))]) (by rw [ev]) ?_
            exact j_101
      refine J_aload_n hC dX11_readRetract_55 0 rfl rfl ?_
      refine J_get (v := .int t3.2.2.1) hC wu_X11 rfl dX11_readRetract_56 0 16 (by decide) wf_X11_153 rfl rfl ?_
      refine J_if_ne (tgt := 69) hC dX11_readRetract_59 (by decide) (fun (c_59 : ¬ t3.2.2.1 = 0) => ?_) (fun (c_59 : t3.2.2.1 = 0) => ?_)
      · refine J_iconst (v := 0) hC dX11_readRetract_69 rfl ?_
        refine J_topi (show (0 : Int32) = (p_rV (M 6) il t) from by rw [p_rV, show p_r3 (M 6) il t = t3 from s3.symm, if_neg c_59]) ?_
        exact j_70
      · refine J_aload_n hC dX11_readRetract_62 0 rfl rfl ?_
        refine J_get (v := .int (tV (M 6) il t3.2.1)) hC wu_X11 rfl dX11_readRetract_63 0 14 (by decide) wf_X11_171 rfl rfl ?_
        refine J_goto (tgt := 70) hC dX11_readRetract_66 (by decide) ?_
        refine J_topi (show (tV (M 6) il t3.2.1 : Int32) = (p_rV (M 6) il t) from by rw [p_rV, show p_r3 (M 6) il t = t3 from s3.symm, if_pos c_59]) ?_
        exact j_70
    refine J_aload_n hC dX11_readRetract_24 0 rfl rfl ?_
    refine J_get (v := .int t2.2.2.1) hC wu_X11 rfl dX11_readRetract_25 0 16 (by decide) wf_X11_153 rfl rfl ?_
    refine J_if_ne (tgt := 45) hC dX11_readRetract_28 (by decide) (fun (c_28 : ¬ t2.2.2.1 = 0) => ?_) (fun (c_28 : t2.2.2.1 = 0) => ?_)
    · refine J_iconst (v := 1) hC dX11_readRetract_45 rfl ?_
      refine J_goto (tgt := 50) hC dX11_readRetract_46 (by decide) ?_
      refine J_topi (show (1 : Int32) = (if ¬ t2.2.2.1 = 0 ∨ tV (M 6) il t2.2.1 < nI ((m_bc t2.1 + 4 - 1) / 4) then 1 else 0) from (if_pos (Or.inl c_28)).symm) ?_
      exact j_50
    · have hG := hp2.2 c_28
      have hbc := hG.1.2
      have hvc := hG.2.1.2
      have hfc := hG.2.2.1.2
      have hmc := hG.2.2.2.1.2
      refine J_aload_n hC dX11_readRetract_31 0 rfl rfl ?_
      refine J_get (v := .int (tV (M 6) il t2.2.1)) hC wu_X11 rfl dX11_readRetract_32 0 14 (by decide) wf_X11_171 rfl rfl ?_
      refine J_aload_n hC dX11_readRetract_35 0 rfl rfl ?_
      refine J_get (v := .ref (m 2)) hC wu_X11 rfl dX11_readRetract_36 0 1 (by decide) wf_X11_13 rfl rfl ?_
      refine J_callSi hC dX11_readRetract_39 wl_X11_236 wi_X11 yi_X11_pages (mdl1_ir (c_X11_pages _ G (m 2) t2.1 (m_bc t2.1) (hG.1.1) (by omega))) rfl rfl ⟨Nat.le_of_ble_eq_true rfl, Nat.le_of_ble_eq_true rfl⟩ (Nat.le_of_ble_eq_true rfl) (Nat.le_of_ble_eq_true rfl) (Nat.le_of_ble_eq_true rfl) (fun r u h_39 => ?_)
      subst h_39
      refine J_ic_ge (tgt := 49) hC dX11_readRetract_42 (by decide) (fun (c_42 : (nI (((m_bc t2.1) + 4 - 1) / 4)) ≤ (tV (M 6) il t2.2.1)) => ?_) (fun (c_42 : ¬ (nI (((m_bc t2.1) + 4 - 1) / 4)) ≤ (tV (M 6) il t2.2.1)) => ?_)
      · refine J_iconst (v := 0) hC dX11_readRetract_49 rfl ?_
        refine J_topi (show (0 : Int32) = (if ¬ t2.2.2.1 = 0 ∨ tV (M 6) il t2.2.1 < nI ((m_bc t2.1 + 4 - 1) / 4) then 1 else 0) from (if_neg (fun h => h.elim (fun z => z c_28) (Int32.not_lt.mpr c_42))).symm) ?_
        exact j_50
      · refine J_iconst (v := 1) hC dX11_readRetract_45 rfl ?_
        refine J_goto (tgt := 50) hC dX11_readRetract_46 (by decide) ?_
        refine J_topi (show (1 : Int32) = (if ¬ t2.2.2.1 = 0 ∨ tV (M 6) il t2.2.1 < nI ((m_bc t2.1 + 4 - 1) / 4) then 1 else 0) from (if_pos (Or.inr (Int32.not_le.mp c_42))).symm) ?_
        exact j_50
  refine J_aload_n hC dX11_readRetract_5 0 rfl rfl ?_
  refine J_get (v := .int (nI (tK (M 6) il t1.2.1))) hC wu_X11 rfl dX11_readRetract_6 0 13 (by decide) wf_X11_174 rfl rfl ?_
  refine J_iconst (v := 2) hC dX11_readRetract_9 rfl ?_
  refine J_ic_neN (a := tK (M 6) il t1.2.1) (b := 2) (tgt := 17) hC dX11_readRetract_10 (by decide) (by omega) (by omega) (fun (c_10 : ¬ (tK (M 6) il t1.2.1) = 2) => ?_) (fun (c_10 : (tK (M 6) il t1.2.1) = 2) => ?_)
  · refine J_iconst (v := 0) hC dX11_readRetract_17 rfl ?_
    refine J_topi (show (0 : Int32) = (if tK (M 6) il t1.2.1 = 2 then 1 else 0) from (if_neg c_10).symm) ?_
    exact j_18
  · refine J_iconst (v := 1) hC dX11_readRetract_13 rfl ?_
    refine J_goto (tgt := 18) hC dX11_readRetract_14 (by decide) ?_
    refine J_topi (show (1 : Int32) = (if tK (M 6) il t1.2.1 = 2 then 1 else 0) from (if_pos c_10).symm) ?_
    exact j_18

set_option maxRecDepth 100000 in
set_option maxHeartbeats 4000000 in
theorem c_X11_readPass (l : Launch) (G : gT) (m : Nat → Nat) (il : Nat) (M : CT) (t : PS RT) (hil : M 8 3 = nI il) (bil : il ≤ 600) (hfi : ∀ j, j < il → ¬ M 6 j = -1) (hp : PI il t) : MV l yX11_readPass cX11_readPass 2 { frames := 5, cells := 0, slots := 0, locals := 114 } [.ref (m 0)] G (mdW G m (pX M il t)) (fun (_ : Unit) => True) (fun _ => mdW G m (pX M il (p_rp (M 6) il t))) := by
  refine jm_v (own := RX11) (by decide) rfl (Nat.le_of_ble_eq_true rfl) (fun x hl hC hR hN => ?_)
  subst hl
  have hb0 := tok_b (M 6) hp.1 bil
  refine J_aload_n hC dX11_readPass_0 0 rfl rfl ?_
  refine J_callVv hC dX11_readPass_1 wl_X11_192 yi_X11_next (c_X11_next _ G m il M t hil bil hfi hp.1) rfl rfl 0 11 rfl rfl ⟨Nat.le_of_ble_eq_true rfl, Nat.le_of_ble_eq_true rfl⟩ (Nat.le_of_ble_eq_true rfl) (Nat.le_of_ble_eq_true rfl) (Nat.le_of_ble_eq_true rfl) (fun _ _ => ?_)
  obtain ⟨t1, d1⟩ : ∃ z, z = p_nxt (M 6) il t := ⟨_, rfl⟩
  have ht1 : t1.2.1 ≤ il := by rw [d1]; exact PE_nxt hp.1
  have hp1 : PI il t1 := by rw [d1]; exact PI_nxt hp
  have hb1 := tok_b (M 6) ht1 bil
  have s1 : t1 = p_p1 (M 6) il t := by rw [d1]; rfl
  refine J_wq (congrArg (fun z => mdW G m (pX M il z)) d1.symm) ?_
  refine J_aload_n hC dX11_readPass_4 0 rfl rfl ?_
  refine J_iconst (v := 0) hC dX11_readPass_5 rfl ?_
  refine J_sipush (v := 200) hC dX11_readPass_6 (by decide +kernel) ?_
  refine J_callVi hC dX11_readPass_9 wl_X11_217 yi_X11_number (c_X11_number _ G m il M t1 0 200 hil bil hfi ht1) rfl rfl 0 11 rfl rfl ⟨Nat.le_of_ble_eq_true rfl, Nat.le_of_ble_eq_true rfl⟩ (Nat.le_of_ble_eq_true rfl) (Nat.le_of_ble_eq_true rfl) (Nat.le_of_ble_eq_true rfl) (fun r u h_9 => ?_)
  subst h_9
  obtain ⟨t2, d2⟩ : ∃ z, z = p_num (M 6) il 0 200 t1 := ⟨_, rfl⟩
  have ht2 : t2.2.1 ≤ il := by rw [d2]; exact PE_num ht1
  have hp2 : PI il t2 := by rw [d2]; exact PI_num hp1
  have hb2 := tok_b (M 6) ht2 bil
  refine J_wq (congrArg (fun z => mdW G m (pX M il z)) d2.symm) ?_
  refine J_istore_n hC [(1, .int (p_lkV (M 6) il 0 200 t1)), (0, .ref (m 0))] dX11_readPass_12 rfl (by decide) rfl ?_
  refine J_aload_n hC dX11_readPass_13 1 rfl rfl ?_
  refine J_callVv hC dX11_readPass_14 wl_X11_220 yi_X11_finish (c_X11_finish _ G m il M t2 hil bil hfi ht2) rfl rfl 0 11 rfl rfl ⟨Nat.le_of_ble_eq_true rfl, Nat.le_of_ble_eq_true rfl⟩ (Nat.le_of_ble_eq_true rfl) (Nat.le_of_ble_eq_true rfl) (Nat.le_of_ble_eq_true rfl) (fun _ _ => ?_)
  obtain ⟨t3, d3⟩ : ∃ z, z = p_fin (M 6) il t2 := ⟨_, rfl⟩
  have ht3 : t3.2.1 ≤ il := by rw [d3]; exact PE_fin ht2
  have hp3 : PI il t3 := by rw [d3]; exact PI_fin hp2
  have hb3 := tok_b (M 6) ht3 bil
  have s3 : t3 = p_p2 (M 6) il t := by rw [d3, d2, s1]; rfl
  refine J_wq (congrArg (fun z => mdW G m (pX M il z)) d3.symm) ?_
  refine J_aload_n hC dX11_readPass_17 1 rfl rfl ?_
  refine J_get (v := .int t3.2.2.1) hC wu_X11 rfl dX11_readPass_18 0 16 (by decide) wf_X11_153 rfl rfl ?_
  refine J_if_ne (tgt := 40) hC dX11_readPass_21 (by decide) (fun (c_21 : ¬ t3.2.2.1 = 0) => ?_) (fun (c_21 : t3.2.2.1 = 0) => ?_)
  · refine J_vret hC hR dX11_readPass_40 () ?_ ?_ (by decide) (by decide)
    · trivial
    · exact congrArg (fun z => mdW G m (pX M il z)) (by rw [p_rp, show p_p2 (M 6) il t = t3 from s3.symm, if_neg c_21])
  · have hG := hp3.2 c_21
    have hbc := hG.1.2
    have hvc := hG.2.1.2
    have hfc := hG.2.2.1.2
    have hmc := hG.2.2.2.1.2
    obtain ⟨ev, -, hv⟩ := rng_eq (a := 0) (b := 200) (by omega) (by omega) (p_lkV_rng (f := M 6) (il := il) (lo := 0) (hi := 200) (t := t1) (by decide))
    obtain ⟨pg, hpe⟩ : ∃ z, z = cl (p_lkV (M 6) il 0 200 t1) := ⟨_, rfl⟩
    rw [← hpe] at ev hv
    refine J_lvq (lv' := [(1, .int (nI pg)), (0, .ref (m 0))]) (by rw [← ev]) ?_
    refine J_aload_n hC dX11_readPass_24 1 rfl rfl ?_
    refine J_get (v := .ref (m 2)) hC wu_X11 rfl dX11_readPass_25 0 1 (by decide) wf_X11_13 rfl rfl ?_
    refine J_iload_n hC dX11_readPass_28 0 rfl rfl ?_
    refine J_callSi hC dX11_readPass_29 wl_X11_242 wi_X11 yi_X11_passMany (mdl1_i (c_X11_passMany _ G (m 2) t3.1 (m_bc t3.1) (m_vc t3.1) (m_fc t3.1) (m_mc t3.1) pg (hG.1.1) (by omega) (hG.2.1.1) (by omega) (hG.2.2.1.1) (by omega) (hG.2.2.2.1.1) (by omega) (by omega) (hG))) rfl rfl ⟨Nat.le_of_ble_eq_true rfl, Nat.le_of_ble_eq_true rfl⟩ (Nat.le_of_ble_eq_true rfl) (Nat.le_of_ble_eq_true rfl) (Nat.le_of_ble_eq_true rfl) (fun r u h_29 => ?_)
    subst h_29
    refine J_if_ge (tgt := 40) hC dX11_readPass_32 (by decide) (fun (c_32 : 0 ≤ (m_days pg t3.1 11 - t3.1 11)) => ?_) (fun (c_32 : ¬ 0 ≤ (m_days pg t3.1 11 - t3.1 11)) => ?_)
    · refine J_vret hC hR dX11_readPass_40 () ?_ ?_ (by decide) (by decide)
      · trivial
      · exact (show _ = mdW G m (pX M il (m_days pg t3.1, t3.2)) from by first | exact mdw_ur _ _ _ _ _ _ | exact congrArg (mdW G m) (pX_set M il _ t3).symm).trans (congrArg (fun z => mdW G m (pX M il z)) (by rw [p_rp, show p_p2 (M 6) il t = t3 from s3.symm, if_pos c_21, show p_p1 (M 6) il t = t1 from s1.symm, ← hpe]))
    · exact absurd (m_days_ge hG _) c_32

set_option maxRecDepth 100000 in
set_option maxHeartbeats 4000000 in
theorem c_X11_readStatement (l : Launch) (G : gT) (m : Nat → Nat) (il : Nat) (M : CT) (t : PS RT) (hil : M 8 3 = nI il) (bil : il ≤ 600) (hfi : ∀ j, j < il → ¬ M 6 j = -1) (hp : PI il t) : MV l yX11_readStatement cX11_readStatement 1 { frames := 7, cells := 0, slots := 0, locals := 151 } [.ref (m 0)] G (mdW G m (pX M il t)) (fun (_ : Unit) => True) (fun _ => mdW G m (pX M il (p_st (M 6) il t))) := by
  refine jm_v (own := RX11) (by decide) rfl (Nat.le_of_ble_eq_true rfl) (fun x hl hC hR hN => ?_)
  subst hl
  have hb0 := tok_b (M 6) hp.1 bil
  refine J_aload_n hC dX11_readStatement_0 0 rfl rfl ?_
  refine J_ldcS (i := 12) hC (by decide) rfl rfl dX11_readStatement_1 ?_
  refine J_callVi hC dX11_readStatement_3 wl_X11_206 yi_X11_is (c_X11_is _ G m il M t 12 hil bil hfi hp.1 (by decide)) rfl rfl 0 11 rfl rfl ⟨Nat.le_of_ble_eq_true rfl, Nat.le_of_ble_eq_true rfl⟩ (Nat.le_of_ble_eq_true rfl) (Nat.le_of_ble_eq_true rfl) (Nat.le_of_ble_eq_true rfl) (fun r u h_3 => ?_)
  rcases h_3 with ⟨rfl, c_3⟩ | ⟨rfl, c_3⟩
  · refine J_if_eq (tgt := 16) hC dX11_readStatement_6 (by decide) (fun c => absurd c (by decide)) (fun _ => ?_)
    refine J_aload_n hC dX11_readStatement_9 0 rfl rfl ?_
    refine J_callVv hC dX11_readStatement_10 wl_X11_247 yi_X11_readVillage (c_X11_readVillage _ G m il M t hil bil hfi hp) rfl rfl 0 11 rfl rfl ⟨Nat.le_of_ble_eq_true rfl, Nat.le_of_ble_eq_true rfl⟩ (Nat.le_of_ble_eq_true rfl) (Nat.le_of_ble_eq_true rfl) (Nat.le_of_ble_eq_true rfl) (fun _ _ => ?_)
    obtain ⟨t1, d1⟩ : ∃ z, z = p_rv (M 6) il t := ⟨_, rfl⟩
    have hp1 : PI il t1 := by rw [d1]; exact PI_rv hp
    have ht1 : t1.2.1 ≤ il := hp1.1
    have hb1 := tok_b (M 6) ht1 bil
    refine J_wq (congrArg (fun z => mdW G m (pX M il z)) d1.symm) ?_
    refine J_goto (tgt := 89) hC dX11_readStatement_13 (by decide) ?_
    refine J_vret hC hR dX11_readStatement_89 () ?_ ?_ (by decide) (by decide)
    · trivial
    · exact congrArg (fun z => mdW G m (pX M il z)) (by rw [d1, p_st, if_pos c_3])
  · refine J_if_eq (tgt := 16) hC dX11_readStatement_6 (by decide) (fun _ => ?_) (fun c => absurd (by decide) c)
    refine J_aload_n hC dX11_readStatement_16 0 rfl rfl ?_
    refine J_ldcS (i := 13) hC (by decide) rfl rfl dX11_readStatement_17 ?_
    refine J_callVi hC dX11_readStatement_19 wl_X11_206 yi_X11_is (c_X11_is _ G m il M t 13 hil bil hfi hp.1 (by decide)) rfl rfl 0 11 rfl rfl ⟨Nat.le_of_ble_eq_true rfl, Nat.le_of_ble_eq_true rfl⟩ (Nat.le_of_ble_eq_true rfl) (Nat.le_of_ble_eq_true rfl) (Nat.le_of_ble_eq_true rfl) (fun r u h_19 => ?_)
    rcases h_19 with ⟨rfl, c_19⟩ | ⟨rfl, c_19⟩
    · refine J_if_eq (tgt := 32) hC dX11_readStatement_22 (by decide) (fun c => absurd c (by decide)) (fun _ => ?_)
      refine J_aload_n hC dX11_readStatement_25 0 rfl rfl ?_
      refine J_callVv hC dX11_readStatement_26 wl_X11_252 yi_X11_readFair (c_X11_readFair _ G m il M t hil bil hfi hp) rfl rfl 0 11 rfl rfl ⟨Nat.le_of_ble_eq_true rfl, Nat.le_of_ble_eq_true rfl⟩ (Nat.le_of_ble_eq_true rfl) (Nat.le_of_ble_eq_true rfl) (Nat.le_of_ble_eq_true rfl) (fun _ _ => ?_)
      obtain ⟨t1, d1⟩ : ∃ z, z = p_rf (M 6) il t := ⟨_, rfl⟩
      have hp1 : PI il t1 := by rw [d1]; exact PI_rf hp
      have ht1 : t1.2.1 ≤ il := hp1.1
      have hb1 := tok_b (M 6) ht1 bil
      refine J_wq (congrArg (fun z => mdW G m (pX M il z)) d1.symm) ?_
      refine J_goto (tgt := 89) hC dX11_readStatement_29 (by decide) ?_
      refine J_vret hC hR dX11_readStatement_89 () ?_ ?_ (by decide) (by decide)
      · trivial
      · exact congrArg (fun z => mdW G m (pX M il z)) (by rw [d1, p_st, if_neg c_3, if_pos c_19])
    · refine J_if_eq (tgt := 32) hC dX11_readStatement_22 (by decide) (fun _ => ?_) (fun c => absurd (by decide) c)
      refine J_aload_n hC dX11_readStatement_32 0 rfl rfl ?_
      refine J_ldcS (i := 14) hC (by decide) rfl rfl dX11_readStatement_33 ?_
      refine J_callVi hC dX11_readStatement_35 wl_X11_206 yi_X11_is (c_X11_is _ G m il M t 14 hil bil hfi hp.1 (by decide)) rfl rfl 0 11 rfl rfl ⟨Nat.le_of_ble_eq_true rfl, Nat.le_of_ble_eq_true rfl⟩ (Nat.le_of_ble_eq_true rfl) (Nat.le_of_ble_eq_true rfl) (Nat.le_of_ble_eq_true rfl) (fun r u h_35 => ?_)
      rcases h_35 with ⟨rfl, c_35⟩ | ⟨rfl, c_35⟩
      · refine J_if_eq (tgt := 48) hC dX11_readStatement_38 (by decide) (fun c => absurd c (by decide)) (fun _ => ?_)
        refine J_aload_n hC dX11_readStatement_41 0 rfl rfl ?_
        refine J_callVv hC dX11_readStatement_42 wl_X11_257 yi_X11_readSay (c_X11_readSay _ G m il M t hil bil hfi hp) rfl rfl 0 11 rfl rfl ⟨Nat.le_of_ble_eq_true rfl, Nat.le_of_ble_eq_true rfl⟩ (Nat.le_of_ble_eq_true rfl) (Nat.le_of_ble_eq_true rfl) (Nat.le_of_ble_eq_true rfl) (fun _ _ => ?_)
        obtain ⟨t1, d1⟩ : ∃ z, z = p_rs (M 6) il t := ⟨_, rfl⟩
        have hp1 : PI il t1 := by rw [d1]; exact PI_rs hp
        have ht1 : t1.2.1 ≤ il := hp1.1
        have hb1 := tok_b (M 6) ht1 bil
        refine J_wq (congrArg (fun z => mdW G m (pX M il z)) d1.symm) ?_
        refine J_goto (tgt := 89) hC dX11_readStatement_45 (by decide) ?_
        refine J_vret hC hR dX11_readStatement_89 () ?_ ?_ (by decide) (by decide)
        · trivial
        · exact congrArg (fun z => mdW G m (pX M il z)) (by rw [d1, p_st, if_neg c_3, if_neg c_19, if_pos c_35])
      · refine J_if_eq (tgt := 48) hC dX11_readStatement_38 (by decide) (fun _ => ?_) (fun c => absurd (by decide) c)
        refine J_aload_n hC dX11_readStatement_48 0 rfl rfl ?_
        refine J_ldcWS (i := 18) hC (by decide) rfl rfl dX11_readStatement_49 ?_
        refine J_callVi hC dX11_readStatement_52 wl_X11_206 yi_X11_is (c_X11_is _ G m il M t 18 hil bil hfi hp.1 (by decide)) rfl rfl 0 11 rfl rfl ⟨Nat.le_of_ble_eq_true rfl, Nat.le_of_ble_eq_true rfl⟩ (Nat.le_of_ble_eq_true rfl) (Nat.le_of_ble_eq_true rfl) (Nat.le_of_ble_eq_true rfl) (fun r u h_52 => ?_)
        rcases h_52 with ⟨rfl, c_52⟩ | ⟨rfl, c_52⟩
        · refine J_if_eq (tgt := 65) hC dX11_readStatement_55 (by decide) (fun c => absurd c (by decide)) (fun _ => ?_)
          refine J_aload_n hC dX11_readStatement_58 0 rfl rfl ?_
          refine J_callVv hC dX11_readStatement_59 wl_X11_262 yi_X11_readRetract (c_X11_readRetract _ G m il M t hil bil hfi hp) rfl rfl 0 11 rfl rfl ⟨Nat.le_of_ble_eq_true rfl, Nat.le_of_ble_eq_true rfl⟩ (Nat.le_of_ble_eq_true rfl) (Nat.le_of_ble_eq_true rfl) (Nat.le_of_ble_eq_true rfl) (fun _ _ => ?_)
          obtain ⟨t1, d1⟩ : ∃ z, z = p_rr (M 6) il t := ⟨_, rfl⟩
          have hp1 : PI il t1 := by rw [d1]; exact PI_rr hp
          have ht1 : t1.2.1 ≤ il := hp1.1
          have hb1 := tok_b (M 6) ht1 bil
          refine J_wq (congrArg (fun z => mdW G m (pX M il z)) d1.symm) ?_
          refine J_goto (tgt := 89) hC dX11_readStatement_62 (by decide) ?_
          refine J_vret hC hR dX11_readStatement_89 () ?_ ?_ (by decide) (by decide)
          · trivial
          · exact congrArg (fun z => mdW G m (pX M il z)) (by rw [d1, p_st, if_neg c_3, if_neg c_19, if_neg c_35, if_pos c_52])
        · refine J_if_eq (tgt := 65) hC dX11_readStatement_55 (by decide) (fun _ => ?_) (fun c => absurd (by decide) c)
          refine J_aload_n hC dX11_readStatement_65 0 rfl rfl ?_
          refine J_ldcWS (i := 19) hC (by decide) rfl rfl dX11_readStatement_66 ?_
          refine J_callVi hC dX11_readStatement_69 wl_X11_206 yi_X11_is (c_X11_is _ G m il M t 19 hil bil hfi hp.1 (by decide)) rfl rfl 0 11 rfl rfl ⟨Nat.le_of_ble_eq_true rfl, Nat.le_of_ble_eq_true rfl⟩ (Nat.le_of_ble_eq_true rfl) (Nat.le_of_ble_eq_true rfl) (Nat.le_of_ble_eq_true rfl) (fun r u h_69 => ?_)
          rcases h_69 with ⟨rfl, c_69⟩ | ⟨rfl, c_69⟩
          · refine J_if_eq (tgt := 82) hC dX11_readStatement_72 (by decide) (fun c => absurd c (by decide)) (fun _ => ?_)
            refine J_aload_n hC dX11_readStatement_75 0 rfl rfl ?_
            refine J_callVv hC dX11_readStatement_76 wl_X11_267 yi_X11_readPass (c_X11_readPass _ G m il M t hil bil hfi hp) rfl rfl 0 11 rfl rfl ⟨Nat.le_of_ble_eq_true rfl, Nat.le_of_ble_eq_true rfl⟩ (Nat.le_of_ble_eq_true rfl) (Nat.le_of_ble_eq_true rfl) (Nat.le_of_ble_eq_true rfl) (fun _ _ => ?_)
            obtain ⟨t1, d1⟩ : ∃ z, z = p_rp (M 6) il t := ⟨_, rfl⟩
            have hp1 : PI il t1 := by rw [d1]; exact PI_rp hp
            have ht1 : t1.2.1 ≤ il := hp1.1
            have hb1 := tok_b (M 6) ht1 bil
            refine J_wq (congrArg (fun z => mdW G m (pX M il z)) d1.symm) ?_
            refine J_goto (tgt := 89) hC dX11_readStatement_79 (by decide) ?_
            refine J_vret hC hR dX11_readStatement_89 () ?_ ?_ (by decide) (by decide)
            · trivial
            · exact congrArg (fun z => mdW G m (pX M il z)) (by rw [d1, p_st, if_neg c_3, if_neg c_19, if_neg c_35, if_neg c_52, if_pos c_69])
          · refine J_if_eq (tgt := 82) hC dX11_readStatement_72 (by decide) (fun _ => ?_) (fun c => absurd (by decide) c)
            refine J_aload_n hC dX11_readStatement_82 0 rfl rfl ?_
            refine J_iconst (v := 0) hC dX11_readStatement_83 rfl ?_
            refine J_iconst (v := 1) hC dX11_readStatement_84 rfl ?_
            refine J_callVi hC dX11_readStatement_85 wl_X11_185 yi_X11_check (c_X11_check _ G m il M t 0 1 hil bil hfi hp.1) rfl rfl 0 11 rfl rfl ⟨Nat.le_of_ble_eq_true rfl, Nat.le_of_ble_eq_true rfl⟩ (Nat.le_of_ble_eq_true rfl) (Nat.le_of_ble_eq_true rfl) (Nat.le_of_ble_eq_true rfl) (fun r u _ => ?_)
            obtain ⟨t1, d1⟩ : ∃ z, z = p_chk (M 6) il False 1 t := ⟨_, rfl⟩
            have ht1 : t1.2.1 ≤ il := by rw [d1]; exact PE_chk hp.1
            have hp1 : PI il t1 := by rw [d1]; exact PI_chk (by decide) hp
            have hb1 := tok_b (M 6) ht1 bil
            refine J_wq (congrArg (fun z => mdW G m (pX M il z)) ((p_chk_0 _ _).trans d1.symm)) ?_
            refine J_pop hC dX11_readStatement_88 rfl ?_
            refine J_vret hC hR dX11_readStatement_89 () ?_ ?_ (by decide) (by decide)
            · trivial
            · exact congrArg (fun z => mdW G m (pX M il z)) (by rw [d1, p_st, if_neg c_3, if_neg c_19, if_neg c_35, if_neg c_52, if_neg c_69])

theorem i32_nI (x : Int32) : ∃ n, x = nI n := ⟨x.toUInt32.toNat, by
  show x = Int32.ofNat x.toUInt32.toNat
  apply Int32.toBitVec_inj.mp
  simp [Int32.ofNat]⟩
theorem rd_start {M : CT} {T : RT} {s k n : Nat} (h5 : M 8 5 = nI s) (h6 : M 8 6 = nI k) (h8 : M 8 8 = nI n) : ur (us (us (us M 8 9 0) 8 10 (-1)) 8 4 0) 1 T = pW M T 0 s k (M 8 7) n 0 (-1) := by
  funext r j
  simp only [ur, us, pW, upd]
  by_cases h1 : r = 1
  · subst h1; simp
  · by_cases h' : r = 8
    · subst h'
      by_cases q4 : j = 4
      · subst q4; simp [upd]; try rfl
      · by_cases q5 : j = 5
        · subst q5; simp [upd, h5]
        · by_cases q6 : j = 6
          · subst q6; simp [upd, h6]
          · by_cases q7 : j = 7
            · subst q7; simp [upd]
            · by_cases q8 : j = 8
              · subst q8; simp [upd, h8]
              · by_cases q9 : j = 9
                · subst q9; simp [upd]
                · by_cases q10 : j = 10
                  · subst q10; simp [upd]
                  · simp [upd, q4, q5, q6, q7, q8, q9, q10]
    · simp [h1, h']

set_option maxRecDepth 100000 in
set_option maxHeartbeats 4000000 in
theorem c_X11_read (l : Launch) (G : gT) (m : Nat → Nat) (il : Nat) (M : CT) (hil : M 8 3 = nI il) (bil : il ≤ 600) (hfi : ∀ j, j < il → ¬ M 6 j = -1) : MV l yX11_read cX11_read 2 { frames := 8, cells := 0, slots := 0, locals := 171 } [.ref (m 0)] G (mdW G m M) (fun (_ : Unit) => True) (fun _ => mdW G m (pX M il (p_all (M 6) il))) := by
  refine jm_v (own := RX11) (by decide) rfl (Nat.le_of_ble_eq_true rfl) (fun x hl hC hR hN => ?_)
  subst hl
  have key : ∀ fuel : Nat, (∀ (i : Nat) (T : RT), (i ≤ 242) → (∀ q, q < i → T q = 0) → 2000 - i < fuel → J x G (mdW G m (ur (us (us (us M 8 9 0) 8 10 (-1)) 8 4 0) 1 T)) 0 0 [(0, .ref (m 0)), (1, .int (nI i))] [] 17) ∧ (∀ (n : Nat) (u : PS RT), (PI il u) → (u.2.2.1 = 0 → il - u.2.1 < n) → (p_lp (M 6) il 601 (p_head (M 6) il) = p_lp (M 6) il n u) → n < fuel → J x G (mdW G m (pX M il u)) 0 0 [(0, .ref (m 0))] [] 147) := by
    intro fuel
    induction fuel with
    | zero => exact ⟨fun _ _ _ _ h => absurd h (Nat.not_lt_zero _), fun _ _ _ _ _ h => absurd h (Nat.not_lt_zero _)⟩
    | succ fuel ih =>
      refine ⟨?_, ?_⟩
      · intro i T hi hT hmu
        refine J_iload_n hC dX11_read_17 1 rfl rfl ?_
        refine J_sipush (v := 242) hC dX11_read_18 (by decide +kernel) ?_
        refine J_ic_geN (a := i) (b := 242) (tgt := 37) hC dX11_read_21 (by decide) (by omega) (by omega) (fun (c_21 : 242 ≤ i) => ?_) (fun (c_21 : i < 242) => ?_)
        · refine J_aload_n hC dX11_read_37 0 rfl rfl ?_
          refine J_congw (q := 2) (n := 242) (f := T) (g := fun _ => 0) (ws' := mdW G m (ur (us (us (us M 8 9 0) 8 10 (-1)) 8 4 0) 1 (fun _ => 0))) rfl (fun j hj => hT j (by omega)) rfl ?_
          obtain ⟨s0, hs0⟩ := i32_nI (M 8 5)
          obtain ⟨k0, hk0⟩ := i32_nI (M 8 6)
          obtain ⟨n0, hn0⟩ := i32_nI (M 8 8)
          refine J_wq (congrArg (mdW G m) (rd_start hs0 hk0 hn0)) ?_
          refine J_callVv hC dX11_read_38 wl_X11_182 yi_X11_advance (c_X11_advance _ G m il M (fun _ => 0) 0 s0 k0 (M 8 7) n0 0 (-1) hil bil (Nat.zero_le _) hfi) rfl rfl 0 11 rfl rfl ⟨Nat.le_of_ble_eq_true rfl, Nat.le_of_ble_eq_true rfl⟩ (Nat.le_of_ble_eq_true rfl) (Nat.le_of_ble_eq_true rfl) (Nat.le_of_ble_eq_true rfl) (fun _ _ => ?_)
          refine J_wq (show _ = mdW G m (pX M il p_h0) from rfl) ?_
          have ht0 : (p_h0).2.1 ≤ il := Nat.zero_le _
          have hb0 := tok_b (M 6) ht0 bil
          refine J_aload_n hC dX11_read_41 0 rfl rfl ?_
          have j_49 : J x G (mdW G m (pX M il p_h0)) 0 0 [(0, .ref (m 0)), (1, .int (nI i))] [.int (if tIs (M 6) il p_h0.2.1 11 then 1 else 0), .ref (m 0)] 49 := by
            refine J_iconst (v := 1) hC dX11_read_49 rfl ?_
            refine J_callVi hC dX11_read_50 wl_X11_185 yi_X11_check (c_X11_check _ G m il M p_h0 (if tIs (M 6) il p_h0.2.1 11 then 1 else 0) 1 hil bil hfi ht0) rfl rfl 0 11 rfl rfl ⟨Nat.le_of_ble_eq_true rfl, Nat.le_of_ble_eq_true rfl⟩ (Nat.le_of_ble_eq_true rfl) (Nat.le_of_ble_eq_true rfl) (Nat.le_of_ble_eq_true rfl) (fun r u _ => ?_)
            obtain ⟨t1, d1⟩ : ∃ z, z = p_chk (M 6) il (tIs (M 6) il p_h0.2.1 11) 1 p_h0 := ⟨_, rfl⟩
            have ht1 : t1.2.1 ≤ il := by rw [d1]; exact PE_chk ht0
            have hb1 := tok_b (M 6) ht1 bil
            refine J_wq (congrArg (fun z => mdW G m (pX M il z)) ((p_chk_ite _ _ _).trans d1.symm)) ?_
            refine J_pop hC dX11_read_53 rfl ?_
            refine J_aload_n hC dX11_read_54 0 rfl rfl ?_
            refine J_callVv hC dX11_read_55 wl_X11_192 yi_X11_next (c_X11_next _ G m il M t1 hil bil hfi ht1) rfl rfl 0 11 rfl rfl ⟨Nat.le_of_ble_eq_true rfl, Nat.le_of_ble_eq_true rfl⟩ (Nat.le_of_ble_eq_true rfl) (Nat.le_of_ble_eq_true rfl) (Nat.le_of_ble_eq_true rfl) (fun _ _ => ?_)
            obtain ⟨t2, d2⟩ : ∃ z, z = p_nxt (M 6) il t1 := ⟨_, rfl⟩
            have ht2 : t2.2.1 ≤ il := by rw [d2]; exact PE_nxt ht1
            have hb2 := tok_b (M 6) ht2 bil
            refine J_wq (congrArg (fun z => mdW G m (pX M il z)) d2.symm) ?_
            refine J_aload_n hC dX11_read_58 0 rfl rfl ?_
            refine J_get (v := .ref (m 2)) hC wu_X11 rfl dX11_read_59 0 1 (by decide) wf_X11_13 rfl rfl ?_
            refine J_iconst (v := 0) hC dX11_read_62 rfl ?_
            refine J_aload_n hC dX11_read_63 0 rfl rfl ?_
            refine J_iconst (v := 0) hC dX11_read_64 rfl ?_
            refine J_sipush (v := 1023) hC dX11_read_65 (by decide +kernel) ?_
            refine J_callVi hC dX11_read_68 wl_X11_217 yi_X11_number (c_X11_number _ G m il M t2 0 1023 hil bil hfi ht2) rfl rfl 0 11 rfl rfl ⟨Nat.le_of_ble_eq_true rfl, Nat.le_of_ble_eq_true rfl⟩ (Nat.le_of_ble_eq_true rfl) (Nat.le_of_ble_eq_true rfl) (Nat.le_of_ble_eq_true rfl) (fun r u h_68 => ?_)
            subst h_68
            obtain ⟨t3, d3⟩ : ∃ z, z = p_num (M 6) il 0 1023 t2 := ⟨_, rfl⟩
            have ht3 : t3.2.1 ≤ il := by rw [d3]; exact PE_num ht2
            have hb3 := tok_b (M 6) ht3 bil
            refine J_wq (congrArg (fun z => mdW G m (pX M il z)) d3.symm) ?_
            refine J_iast (i := 0) (ws' := mdW G m (pW M (upd t3.1 0 (p_lkV (M 6) il 0 1023 t2)) (tE (M 6) il t3.2.1) (tS (M 6) il t3.2.1) (tK (M 6) il t3.2.1) (tV (M 6) il t3.2.1) (tL (M 6) il t3.2.1) t3.2.2.1 t3.2.2.2)) hC dX11_read_71 2 rfl (by omega) (by decide) rfl ?_
            obtain ⟨t4, d4⟩ : ∃ z, z = (upd t3.1 0 (p_lkV (M 6) il 0 1023 t2), t3.2) := ⟨_, rfl⟩
            have s4 : t4 = p_set 0 (p_lkV (M 6) il 0 1023 t2) t3 := d4
            have ht4 : t4.2.1 ≤ il := by rw [d4]; exact ht3
            have hb4 := tok_b (M 6) ht4 bil
            refine J_wq (show _ = mdW G m (pX M il t4) from by rw [d4]; first | exact mdw_ur _ _ _ _ _ _ | exact congrArg (mdW G m) (pX_set M il _ t3).symm) ?_
            refine J_aload_n hC dX11_read_72 0 rfl rfl ?_
            refine J_get (v := .ref (m 2)) hC wu_X11 rfl dX11_read_73 0 1 (by decide) wf_X11_13 rfl rfl ?_
            refine J_iconst (v := 1) hC dX11_read_76 rfl ?_
            refine J_aload_n hC dX11_read_77 0 rfl rfl ?_
            refine J_iconst (v := 0) hC dX11_read_78 rfl ?_
            refine J_bipush (v := 20) hC dX11_read_79 (by decide +kernel) ?_
            refine J_callVi hC dX11_read_81 wl_X11_217 yi_X11_number (c_X11_number _ G m il M t4 0 20 hil bil hfi ht4) rfl rfl 0 11 rfl rfl ⟨Nat.le_of_ble_eq_true rfl, Nat.le_of_ble_eq_true rfl⟩ (Nat.le_of_ble_eq_true rfl) (Nat.le_of_ble_eq_true rfl) (Nat.le_of_ble_eq_true rfl) (fun r u h_81 => ?_)
            subst h_81
            obtain ⟨t5, d5⟩ : ∃ z, z = p_num (M 6) il 0 20 t4 := ⟨_, rfl⟩
            have ht5 : t5.2.1 ≤ il := by rw [d5]; exact PE_num ht4
            have hb5 := tok_b (M 6) ht5 bil
            refine J_wq (congrArg (fun z => mdW G m (pX M il z)) d5.symm) ?_
            refine J_iast (i := 1) (ws' := mdW G m (pW M (upd t5.1 1 (p_lkV (M 6) il 0 20 t4)) (tE (M 6) il t5.2.1) (tS (M 6) il t5.2.1) (tK (M 6) il t5.2.1) (tV (M 6) il t5.2.1) (tL (M 6) il t5.2.1) t5.2.2.1 t5.2.2.2)) hC dX11_read_84 2 rfl (by omega) (by decide) rfl ?_
            obtain ⟨t6, d6⟩ : ∃ z, z = (upd t5.1 1 (p_lkV (M 6) il 0 20 t4), t5.2) := ⟨_, rfl⟩
            have s6 : t6 = p_set 1 (p_lkV (M 6) il 0 20 t4) t5 := d6
            have ht6 : t6.2.1 ≤ il := by rw [d6]; exact ht5
            have hb6 := tok_b (M 6) ht6 bil
            refine J_wq (show _ = mdW G m (pX M il t6) from by rw [d6]; first | exact mdw_ur _ _ _ _ _ _ | exact congrArg (mdW G m) (pX_set M il _ t5).symm) ?_
            refine J_aload_n hC dX11_read_85 0 rfl rfl ?_
            refine J_get (v := .ref (m 2)) hC wu_X11 rfl dX11_read_86 0 1 (by decide) wf_X11_13 rfl rfl ?_
            refine J_iconst (v := 2) hC dX11_read_89 rfl ?_
            refine J_aload_n hC dX11_read_90 0 rfl rfl ?_
            refine J_iconst (v := 0) hC dX11_read_91 rfl ?_
            refine J_bipush (v := 20) hC dX11_read_92 (by decide +kernel) ?_
            refine J_callVi hC dX11_read_94 wl_X11_217 yi_X11_number (c_X11_number _ G m il M t6 0 20 hil bil hfi ht6) rfl rfl 0 11 rfl rfl ⟨Nat.le_of_ble_eq_true rfl, Nat.le_of_ble_eq_true rfl⟩ (Nat.le_of_ble_eq_true rfl) (Nat.le_of_ble_eq_true rfl) (Nat.le_of_ble_eq_true rfl) (fun r u h_94 => ?_)
            subst h_94
            obtain ⟨t7, d7⟩ : ∃ z, z = p_num (M 6) il 0 20 t6 := ⟨_, rfl⟩
            have ht7 : t7.2.1 ≤ il := by rw [d7]; exact PE_num ht6
            have hb7 := tok_b (M 6) ht7 bil
            refine J_wq (congrArg (fun z => mdW G m (pX M il z)) d7.symm) ?_
            refine J_iast (i := 2) (ws' := mdW G m (pW M (upd t7.1 2 (p_lkV (M 6) il 0 20 t6)) (tE (M 6) il t7.2.1) (tS (M 6) il t7.2.1) (tK (M 6) il t7.2.1) (tV (M 6) il t7.2.1) (tL (M 6) il t7.2.1) t7.2.2.1 t7.2.2.2)) hC dX11_read_97 2 rfl (by omega) (by decide) rfl ?_
            obtain ⟨t8, d8⟩ : ∃ z, z = (upd t7.1 2 (p_lkV (M 6) il 0 20 t6), t7.2) := ⟨_, rfl⟩
            have s8 : t8 = p_set 2 (p_lkV (M 6) il 0 20 t6) t7 := d8
            have ht8 : t8.2.1 ≤ il := by rw [d8]; exact ht7
            have hb8 := tok_b (M 6) ht8 bil
            refine J_wq (show _ = mdW G m (pX M il t8) from by rw [d8]; first | exact mdw_ur _ _ _ _ _ _ | exact congrArg (mdW G m) (pX_set M il _ t7).symm) ?_
            refine J_aload_n hC dX11_read_98 0 rfl rfl ?_
            refine J_get (v := .ref (m 2)) hC wu_X11 rfl dX11_read_99 0 1 (by decide) wf_X11_13 rfl rfl ?_
            refine J_iconst (v := 3) hC dX11_read_102 rfl ?_
            refine J_aload_n hC dX11_read_103 0 rfl rfl ?_
            refine J_iconst (v := 0) hC dX11_read_104 rfl ?_
            refine J_bipush (v := 20) hC dX11_read_105 (by decide +kernel) ?_
            refine J_callVi hC dX11_read_107 wl_X11_188 yi_X11_look (c_X11_look _ G m il M t8 0 20 hil bil hfi ht8) rfl rfl 0 11 rfl rfl ⟨Nat.le_of_ble_eq_true rfl, Nat.le_of_ble_eq_true rfl⟩ (Nat.le_of_ble_eq_true rfl) (Nat.le_of_ble_eq_true rfl) (Nat.le_of_ble_eq_true rfl) (fun r u h_107 => ?_)
            subst h_107
            obtain ⟨t9, d9⟩ : ∃ z, z = p_lk (M 6) il 0 20 t8 := ⟨_, rfl⟩
            have ht9 : t9.2.1 ≤ il := by rw [d9]; exact PE_lk ht8
            have hb9 := tok_b (M 6) ht9 bil
            refine J_wq (congrArg (fun z => mdW G m (pX M il z)) d9.symm) ?_
            refine J_iast (i := 3) (ws' := mdW G m (pW M (upd t9.1 3 (p_lkV (M 6) il 0 20 t8)) (tE (M 6) il t9.2.1) (tS (M 6) il t9.2.1) (tK (M 6) il t9.2.1) (tV (M 6) il t9.2.1) (tL (M 6) il t9.2.1) t9.2.2.1 t9.2.2.2)) hC dX11_read_110 2 rfl (by omega) (by decide) rfl ?_
            obtain ⟨t10, d10⟩ : ∃ z, z = (upd t9.1 3 (p_lkV (M 6) il 0 20 t8), t9.2) := ⟨_, rfl⟩
            have s10 : t10 = p_set 3 (p_lkV (M 6) il 0 20 t8) t9 := d10
            have ht10 : t10.2.1 ≤ il := by rw [d10]; exact ht9
            have hb10 := tok_b (M 6) ht10 bil
            refine J_wq (show _ = mdW G m (pX M il t10) from by rw [d10]; first | exact mdw_ur _ _ _ _ _ _ | exact congrArg (mdW G m) (pX_set M il _ t9).symm) ?_
            refine J_aload_n hC dX11_read_111 0 rfl rfl ?_
            have j_134 : J x G (mdW G m (pX M il t10)) 0 0 [(0, .ref (m 0)), (1, .int (nI i))] [.int (if ¬ t10.2.2.1 = 0 ∨ 0 < m_allOdds t10.1 then 1 else 0), .ref (m 0)] 134 := by
              refine J_iconst (v := 2) hC dX11_read_134 rfl ?_
              refine J_callVi hC dX11_read_135 wl_X11_185 yi_X11_check (c_X11_check _ G m il M t10 (if ¬ t10.2.2.1 = 0 ∨ 0 < m_allOdds t10.1 then 1 else 0) 2 hil bil hfi ht10) rfl rfl 0 11 rfl rfl ⟨Nat.le_of_ble_eq_true rfl, Nat.le_of_ble_eq_true rfl⟩ (Nat.le_of_ble_eq_true rfl) (Nat.le_of_ble_eq_true rfl) (Nat.le_of_ble_eq_true rfl) (fun r u _ => ?_)
              obtain ⟨t11, d11⟩ : ∃ z, z = p_chk (M 6) il (0 < m_allOdds t10.1) 2 t10 := ⟨_, rfl⟩
              have ht11 : t11.2.1 ≤ il := by rw [d11]; exact PE_chk ht10
              have hb11 := tok_b (M 6) ht11 bil
              refine J_wq (congrArg (fun z => mdW G m (pX M il z)) ((p_chk_iteo _ _ _).trans d11.symm)) ?_
              refine J_pop hC dX11_read_138 rfl ?_
              refine J_aload_n hC dX11_read_139 0 rfl rfl ?_
              refine J_callVv hC dX11_read_140 wl_X11_192 yi_X11_next (c_X11_next _ G m il M t11 hil bil hfi ht11) rfl rfl 0 11 rfl rfl ⟨Nat.le_of_ble_eq_true rfl, Nat.le_of_ble_eq_true rfl⟩ (Nat.le_of_ble_eq_true rfl) (Nat.le_of_ble_eq_true rfl) (Nat.le_of_ble_eq_true rfl) (fun _ _ => ?_)
              obtain ⟨t12, d12⟩ : ∃ z, z = p_nxt (M 6) il t11 := ⟨_, rfl⟩
              have ht12 : t12.2.1 ≤ il := by rw [d12]; exact PE_nxt ht11
              have hb12 := tok_b (M 6) ht12 bil
              refine J_wq (congrArg (fun z => mdW G m (pX M il z)) d12.symm) ?_
              refine J_aload_n hC dX11_read_143 0 rfl rfl ?_
              refine J_callVv hC dX11_read_144 wl_X11_220 yi_X11_finish (c_X11_finish _ G m il M t12 hil bil hfi ht12) rfl rfl 0 11 rfl rfl ⟨Nat.le_of_ble_eq_true rfl, Nat.le_of_ble_eq_true rfl⟩ (Nat.le_of_ble_eq_true rfl) (Nat.le_of_ble_eq_true rfl) (Nat.le_of_ble_eq_true rfl) (fun _ _ => ?_)
              obtain ⟨t13, d13⟩ : ∃ z, z = p_fin (M 6) il t12 := ⟨_, rfl⟩
              have ht13 : t13.2.1 ≤ il := by rw [d13]; exact PE_fin ht12
              have hb13 := tok_b (M 6) ht13 bil
              refine J_wq (congrArg (fun z => mdW G m (pX M il z)) d13.symm) ?_
              refine J_lv (lv' := [(0, .ref (m 0))]) [0] rfl ?_
              exact ih.2 601 t13 (by rw [show t13 = p_head (M 6) il from by rw [d13, d12, d11, s10, d9, s8, d7, s6, d5, s4, d3, d2, d1]; rfl]; exact PI_head) (fun _ => by omega) (by rw [show t13 = p_head (M 6) il from by rw [d13, d12, d11, s10, d9, s8, d7, s6, d5, s4, d3, d2, d1]; rfl]) (by first | omega | (have := hn c_151; omega))
            refine J_aload_n hC dX11_read_112 0 rfl rfl ?_
            refine J_get (v := .int t10.2.2.1) hC wu_X11 rfl dX11_read_113 0 16 (by decide) wf_X11_153 rfl rfl ?_
            refine J_if_ne (tgt := 129) hC dX11_read_116 (by decide) (fun (c_116 : ¬ t10.2.2.1 = 0) => ?_) (fun (c_116 : t10.2.2.1 = 0) => ?_)
            · refine J_iconst (v := 1) hC dX11_read_129 rfl ?_
              refine J_goto (tgt := 134) hC dX11_read_130 (by decide) ?_
              refine J_topi (show (1 : Int32) = (if ¬ t10.2.2.1 = 0 ∨ 0 < m_allOdds t10.1 then 1 else 0) from (if_pos (Or.inl c_116)).symm) ?_
              exact j_134
            · refine J_aload_n hC dX11_read_119 0 rfl rfl ?_
              refine J_get (v := .ref (m 2)) hC wu_X11 rfl dX11_read_120 0 1 (by decide) wf_X11_13 rfl rfl ?_
              refine J_callSi hC dX11_read_123 wl_X11_108 wi_X11 yi_X11_allOdds (mdl1_ir (c_X11_allOdds _ G (m 2) t10.1)) rfl rfl ⟨Nat.le_of_ble_eq_true rfl, Nat.le_of_ble_eq_true rfl⟩ (Nat.le_of_ble_eq_true rfl) (Nat.le_of_ble_eq_true rfl) (Nat.le_of_ble_eq_true rfl) (fun r u h_123 => ?_)
              subst h_123
              refine J_if_le (tgt := 133) hC dX11_read_126 (by decide) (fun (c_126 : (m_allOdds t10.1) ≤ 0) => ?_) (fun (c_126 : ¬ (m_allOdds t10.1) ≤ 0) => ?_)
              · refine J_iconst (v := 0) hC dX11_read_133 rfl ?_
                refine J_topi (show (0 : Int32) = (if ¬ t10.2.2.1 = 0 ∨ 0 < m_allOdds t10.1 then 1 else 0) from (if_neg (fun h => h.elim (fun z => z c_116) (Int32.not_lt.mpr c_126))).symm) ?_
                exact j_134
              · refine J_iconst (v := 1) hC dX11_read_129 rfl ?_
                refine J_goto (tgt := 134) hC dX11_read_130 (by decide) ?_
                refine J_topi (show (1 : Int32) = (if ¬ t10.2.2.1 = 0 ∨ 0 < m_allOdds t10.1 then 1 else 0) from (if_pos (Or.inr (Int32.not_le.mp c_126))).symm) ?_
                exact j_134
          refine J_aload_n hC dX11_read_42 0 rfl rfl ?_
          refine J_ldcWS (i := 11) hC (by decide) rfl rfl dX11_read_43 ?_
          refine J_callVi hC dX11_read_46 wl_X11_206 yi_X11_is (c_X11_is _ G m il M p_h0 11 hil bil hfi ht0 (by decide)) rfl rfl 0 11 rfl rfl ⟨Nat.le_of_ble_eq_true rfl, Nat.le_of_ble_eq_true rfl⟩ (Nat.le_of_ble_eq_true rfl) (Nat.le_of_ble_eq_true rfl) (Nat.le_of_ble_eq_true rfl) (fun r u h_46 => ?_)
          rcases h_46 with ⟨rfl, c_46⟩ | ⟨rfl, c_46⟩
          · refine J_topi (show (1 : Int32) = (if tIs (M 6) il p_h0.2.1 11 then 1 else 0) from (if_pos c_46).symm) ?_
            exact j_49
          · refine J_topi (show (0 : Int32) = (if tIs (M 6) il p_h0.2.1 11 then 1 else 0) from (if_neg c_46).symm) ?_
            exact j_49
        · refine J_aload_n hC dX11_read_24 0 rfl rfl ?_
          refine J_get (v := .ref (m 2)) hC wu_X11 rfl dX11_read_25 0 1 (by decide) wf_X11_13 rfl rfl ?_
          refine J_iload_n hC dX11_read_28 1 rfl rfl ?_
          refine J_iconst (v := 0) hC dX11_read_29 rfl ?_
          refine J_iast (i := i) (ws' := mdW G m (us (ur (us (us (us M 8 9 0) 8 10 (-1)) 8 4 0) 1 T) 1 i 0)) hC dX11_read_30 2 rfl (by omega) (by decide) rfl ?_
          refine J_iinc hC [(1, .int (nI (i + 1))), (0, .ref (m 0))] dX11_read_31 1 rfl (nI_inc _) (by decide) rfl ?_
          refine J_goto (tgt := 17) hC dX11_read_34 (by decide) ?_
          refine J_lv (lv' := [(0, .ref (m 0)), (1, .int (nI (i + 1)))]) [1, 0] rfl ?_
          exact ih.1 (i + 1) (upd T i 0) (by omega) (fun q hq => (Nat.lt_succ_iff_lt_or_eq.mp hq).elim (fun z => (pk_un (by omega)).trans (hT q z)) (fun e => by rw [e]; exact pk_us)) (by omega)
      · intro n u hu hn hI hmu
        have hb0 := tok_b (M 6) hu.1 bil
        refine J_aload_n hC dX11_read_147 0 rfl rfl ?_
        refine J_get (v := .int u.2.2.1) hC wu_X11 rfl dX11_read_148 0 16 (by decide) wf_X11_153 rfl rfl ?_
        refine J_if_ne (tgt := 168) hC dX11_read_151 (by decide) (fun (c_151 : ¬ u.2.2.1 = 0) => ?_) (fun (c_151 : u.2.2.1 = 0) => ?_)
        · refine J_vret hC hR dX11_read_168 () ?_ ?_ (by decide) (by decide)
          · trivial
          · exact congrArg (fun z => mdW G m (pX M il z)) (by rw [p_all, hI, p_lp_end (Or.inl c_151)])
        · refine J_aload_n hC dX11_read_154 0 rfl rfl ?_
          refine J_get (v := .int (nI (tK (M 6) il u.2.1))) hC wu_X11 rfl dX11_read_155 0 13 (by decide) wf_X11_174 rfl rfl ?_
          refine J_if_eqN (a := tK (M 6) il u.2.1) (tgt := 168) hC dX11_read_158 (by decide) (by omega) (fun (c_158 : (tK (M 6) il u.2.1) = 0) => ?_) (fun (c_158 : 0 < (tK (M 6) il u.2.1)) => ?_)
          · refine J_vret hC hR dX11_read_168 () ?_ ?_ (by decide) (by decide)
            · trivial
            · exact congrArg (fun z => mdW G m (pX M il z)) (by rw [p_all, hI, p_lp_end (Or.inr c_158)])
          · refine J_aload_n hC dX11_read_161 0 rfl rfl ?_
            refine J_callVv hC dX11_read_162 wl_X11_272 yi_X11_readStatement (c_X11_readStatement _ G m il M u hil bil hfi hu) rfl rfl 0 11 rfl rfl ⟨Nat.le_of_ble_eq_true rfl, Nat.le_of_ble_eq_true rfl⟩ (Nat.le_of_ble_eq_true rfl) (Nat.le_of_ble_eq_true rfl) (Nat.le_of_ble_eq_true rfl) (fun _ _ => ?_)
            obtain ⟨t1, d1⟩ : ∃ z, z = p_st (M 6) il u := ⟨_, rfl⟩
            have hp1 : PI il t1 := by rw [d1]; exact PI_st hu
            have ht1 : t1.2.1 ≤ il := hp1.1
            have hb1 := tok_b (M 6) ht1 bil
            refine J_wq (congrArg (fun z => mdW G m (pX M il z)) d1.symm) ?_
            refine J_goto (tgt := 147) hC dX11_read_165 (by decide) ?_
            exact ih.2 (n - 1) t1 (hp1) (fun hc => by have := p_st_adv (f := M 6) hu.1 (by omega) (by rw [← d1]; exact hc); rw [← d1] at this; have := hn c_151; omega) (by rw [hI, p_lp_go (by have := hn c_151; omega) c_151 (by omega), d1]) (by first | omega | (have := hn c_151; omega))
  refine J_aload_n hC dX11_read_0 0 rfl rfl ?_
  refine J_iconst (v := 0) hC dX11_read_1 rfl ?_
  refine J_put (ws' := mdW G m (us M 8 9 0)) hC wu_X11 rfl tyX11_ok nmX11 dX11_read_2 0 16 (by decide) wf_X11_153 rfl rfl (Nat.le_of_ble_eq_true rfl) rfl rfl rfl ?_
  refine J_aload_n hC dX11_read_5 0 rfl rfl ?_
  refine J_iconst (v := (-1)) hC dX11_read_6 rfl ?_
  refine J_put (ws' := mdW G m (us (us M 8 9 0) 8 10 (-1))) hC wu_X11 rfl tyX11_ok nmX11 dX11_read_7 0 17 (by decide) wf_X11_32 rfl rfl (Nat.le_of_ble_eq_true rfl) rfl rfl rfl ?_
  refine J_aload_n hC dX11_read_10 0 rfl rfl ?_
  refine J_iconst (v := 0) hC dX11_read_11 rfl ?_
  refine J_put (ws' := mdW G m (us (us (us M 8 9 0) 8 10 (-1)) 8 4 0)) hC wu_X11 rfl tyX11_ok nmX11 dX11_read_12 0 11 (by decide) wf_X11_159 rfl rfl (Nat.le_of_ble_eq_true rfl) rfl rfl rfl ?_
  refine J_iconst (v := 0) hC dX11_read_15 rfl ?_
  refine J_istore_n hC [(1, .int 0), (0, .ref (m 0))] dX11_read_16 rfl (by decide) rfl ?_
  refine J_lv (lv' := [(0, .ref (m 0)), (1, .int 0)]) [1, 0] rfl ?_
  exact ((key _).1) 0 (M 1) (by omega) (fun q hq => absurd hq (Nat.not_lt_zero _)) (Nat.lt_succ_self _)

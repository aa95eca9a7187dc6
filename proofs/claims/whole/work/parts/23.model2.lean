set_option maxRecDepth 100000 in
set_option maxHeartbeats 4000000 in
theorem c_X11_refuses_0 (l : Launch) (G : gT) (m : Nat → Nat) (M : CT) (k : Int32) (h0 : M 8 2 = 0) : MI l yX11_refuses cX11_refuses 3 (some .boolean) { frames := 0, cells := 0, slots := 0, locals := 0 } [.ref (m 0), .int 0, .int k] G (mdW G m M) (fun r (u : CT) => ((True) ∧ 0 = r ∧ M = u)) (fun u => mdW G m u) := by
  refine jm_i (own := RX11) (by decide) rfl (Nat.le_of_ble_eq_true rfl) (fun x hl hC hR hN => ?_)
  subst hl
  refine J_iload_n hC dX11_refuses_0 1 rfl rfl ?_
  refine J_if_eq (tgt := 16) hC dX11_refuses_1 (by decide) (fun _ => ?_) (fun c => absurd (by decide) c)
  refine J_aload_n hC dX11_refuses_16 0 rfl rfl ?_
  refine J_get (v := .int (M 8 2)) hC wu_X11 rfl dX11_refuses_17 0 8 (by decide) wf_X11_66 rfl rfl ?_
  refine J_if_eq (tgt := 27) hC dX11_refuses_20 (by decide) (fun (c_20 : (M 8 2) = 0) => ?_) (fun (c_20 : ¬ (M 8 2) = 0) => ?_)
  · refine J_iconst (v := 0) hC dX11_refuses_27 rfl ?_
    refine J_iret hC hR dX11_refuses_28 rfl M ?_ ?_ (by decide) (by decide)
    · exact ⟨trivial, rfl, rfl⟩
    · rfl
  · exact absurd h0 c_20

set_option maxRecDepth 100000 in
set_option maxHeartbeats 4000000 in
theorem c_X11_refuses_1 (l : Launch) (G : gT) (m : Nat → Nat) (M : CT) (k : Int32) (h0 : M 8 2 = 0) (hk : ¬ k = 0) : MI l yX11_refuses cX11_refuses 3 (some .boolean) { frames := 0, cells := 0, slots := 0, locals := 0 } [.ref (m 0), .int 1, .int k] G (mdW G m M) (fun r (u : CT) => ((True) ∧ 1 = r ∧ (us M 8 2 k) = u)) (fun u => mdW G m u) := by
  refine jm_i (own := RX11) (by decide) rfl (Nat.le_of_ble_eq_true rfl) (fun x hl hC hR hN => ?_)
  subst hl
  refine J_iload_n hC dX11_refuses_0 1 rfl rfl ?_
  refine J_if_eq (tgt := 16) hC dX11_refuses_1 (by decide) (fun c => absurd c (by decide)) (fun _ => ?_)
  refine J_aload_n hC dX11_refuses_4 0 rfl rfl ?_
  refine J_get (v := .int (M 8 2)) hC wu_X11 rfl dX11_refuses_5 0 8 (by decide) wf_X11_66 rfl rfl ?_
  refine J_if_ne (tgt := 16) hC dX11_refuses_8 (by decide) (fun (c_8 : ¬ (M 8 2) = 0) => ?_) (fun (c_8 : (M 8 2) = 0) => ?_)
  · exact absurd h0 c_8
  · refine J_aload_n hC dX11_refuses_11 0 rfl rfl ?_
    refine J_iload_n hC dX11_refuses_12 2 rfl rfl ?_
    refine J_put (ws' := mdW G m (us M 8 2 k)) hC wu_X11 rfl tyX11_ok nmX11 dX11_refuses_13 0 8 (by decide) wf_X11_66 rfl rfl (Nat.le_of_ble_eq_true rfl) rfl rfl rfl ?_
    refine J_aload_n hC dX11_refuses_16 0 rfl rfl ?_
    refine J_get (v := .int k) hC wu_X11 rfl dX11_refuses_17 0 8 (by decide) wf_X11_66 rfl rfl ?_
    refine J_if_eq (tgt := 27) hC dX11_refuses_20 (by decide) (fun (c_20 : k = 0) => ?_) (fun (c_20 : ¬ k = 0) => ?_)
    · exact absurd c_20 hk
    · refine J_iconst (v := 1) hC dX11_refuses_23 rfl ?_
      refine J_goto (tgt := 28) hC dX11_refuses_24 (by decide) ?_
      refine J_iret hC hR dX11_refuses_28 rfl (us M 8 2 k) ?_ ?_ (by decide) (by decide)
      · exact ⟨trivial, rfl, rfl⟩
      · rfl

set_option maxRecDepth 100000 in
set_option maxHeartbeats 4000000 in
theorem c_X11_noNumber (l : Launch) (G : gT) (m : Nat → Nat) (M : CT) (v : Int32) (lo : Int32) (hi : Int32) : MI l yX11_noNumber cX11_noNumber 4 (some .boolean) { frames := 1, cells := 0, slots := 0, locals := 22 } [.ref (m 0), .int v, .int lo, .int hi] G (mdW G m M) (fun r (u : CT) => ((¬ v < lo ∧ ¬ hi < v) ∧ 0 = r ∧ (us M 8 2 0) = u) ∨ ((¬ (¬ v < lo ∧ ¬ hi < v)) ∧ 1 = r ∧ (us M 8 2 1) = u)) (fun u => mdW G m u) := by
  refine jm_i (own := RX11) (by decide) rfl (Nat.le_of_ble_eq_true rfl) (fun x hl hC hR hN => ?_)
  subst hl
  refine J_aload_n hC dX11_noNumber_0 0 rfl rfl ?_
  refine J_iconst (v := 0) hC dX11_noNumber_1 rfl ?_
  refine J_put (ws' := mdW G m (us M 8 2 0)) hC wu_X11 rfl tyX11_ok nmX11 dX11_noNumber_2 0 8 (by decide) wf_X11_66 rfl rfl (Nat.le_of_ble_eq_true rfl) rfl rfl rfl ?_
  refine J_aload_n hC dX11_noNumber_5 0 rfl rfl ?_
  refine J_iload_n hC dX11_noNumber_6 1 rfl rfl ?_
  refine J_iload_n hC dX11_noNumber_7 2 rfl rfl ?_
  refine J_iload_n hC dX11_noNumber_8 3 rfl rfl ?_
  refine J_callSi hC dX11_noNumber_9 wl_X11_156 wi_X11 yi_X11_isBetween (c_X11_isBetween _ G (mdW G m (us M 8 2 0)) v lo hi) rfl rfl ⟨Nat.le_of_ble_eq_true rfl, Nat.le_of_ble_eq_true rfl⟩ (Nat.le_of_ble_eq_true rfl) (Nat.le_of_ble_eq_true rfl) (Nat.le_of_ble_eq_true rfl) (fun r u h_9 => ?_)
  rcases h_9 with ⟨rfl, c_9⟩ | ⟨rfl, c_9⟩
  · refine J_if_ne (tgt := 19) hC dX11_noNumber_12 (by decide) (fun _ => ?_) (fun c => absurd c (by decide))
    refine J_iconst (v := 0) hC dX11_noNumber_19 rfl ?_
    refine J_iconst (v := 1) hC dX11_noNumber_20 rfl ?_
    refine J_callVi hC dX11_noNumber_21 wl_X11_141 yi_X11_refuses (c_X11_refuses_0 _ G m (us M 8 2 0) 1 (by first | assumption | rfl)) rfl rfl 0 11 rfl rfl ⟨Nat.le_of_ble_eq_true rfl, Nat.le_of_ble_eq_true rfl⟩ (Nat.le_of_ble_eq_true rfl) (Nat.le_of_ble_eq_true rfl) (Nat.le_of_ble_eq_true rfl) (fun r u h_21 => ?_)
    obtain ⟨c_21, rfl, rfl⟩ := h_21
    refine J_iret hC hR dX11_noNumber_24 rfl (us M 8 2 0) ?_ ?_ (by decide) (by decide)
    · exact Or.inl ⟨c_9, rfl, rfl⟩
    · rfl
  · refine J_if_ne (tgt := 19) hC dX11_noNumber_12 (by decide) (fun c => absurd (by decide) c) (fun _ => ?_)
    refine J_iconst (v := 1) hC dX11_noNumber_15 rfl ?_
    refine J_goto (tgt := 20) hC dX11_noNumber_16 (by decide) ?_
    refine J_iconst (v := 1) hC dX11_noNumber_20 rfl ?_
    refine J_callVi hC dX11_noNumber_21 wl_X11_141 yi_X11_refuses (c_X11_refuses_1 _ G m (us M 8 2 0) 1 (by first | assumption | rfl) (by decide)) rfl rfl 0 11 rfl rfl ⟨Nat.le_of_ble_eq_true rfl, Nat.le_of_ble_eq_true rfl⟩ (Nat.le_of_ble_eq_true rfl) (Nat.le_of_ble_eq_true rfl) (Nat.le_of_ble_eq_true rfl) (fun r u h_21 => ?_)
    obtain ⟨c_21, rfl, rfl⟩ := h_21
    rw [us_us]
    refine J_iret hC hR dX11_noNumber_24 rfl (us M 8 2 1) ?_ ?_ (by decide) (by decide)
    · exact Or.inr (⟨c_9, rfl, rfl⟩)
    · rfl

set_option maxRecDepth 100000 in
set_option maxHeartbeats 4000000 in
theorem c_X11_out (l : Launch) (G : gT) (m : Nat → Nat) (M : CT) (v : Int32) (lo : Int32) (hi : Int32) (h0 : M 8 2 = 0) : MI l yX11_out cX11_out 4 (some .boolean) { frames := 1, cells := 0, slots := 0, locals := 22 } [.ref (m 0), .int v, .int lo, .int hi] G (mdW G m M) (fun r (u : CT) => ((¬ v < lo ∧ ¬ hi < v) ∧ 0 = r ∧ M = u) ∨ ((¬ (¬ v < lo ∧ ¬ hi < v)) ∧ 1 = r ∧ (us M 8 2 2) = u)) (fun u => mdW G m u) := by
  refine jm_i (own := RX11) (by decide) rfl (Nat.le_of_ble_eq_true rfl) (fun x hl hC hR hN => ?_)
  subst hl
  refine J_aload_n hC dX11_out_0 0 rfl rfl ?_
  refine J_iload_n hC dX11_out_1 1 rfl rfl ?_
  refine J_iload_n hC dX11_out_2 2 rfl rfl ?_
  refine J_iload_n hC dX11_out_3 3 rfl rfl ?_
  refine J_callSi hC dX11_out_4 wl_X11_156 wi_X11 yi_X11_isBetween (c_X11_isBetween _ G (mdW G m M) v lo hi) rfl rfl ⟨Nat.le_of_ble_eq_true rfl, Nat.le_of_ble_eq_true rfl⟩ (Nat.le_of_ble_eq_true rfl) (Nat.le_of_ble_eq_true rfl) (Nat.le_of_ble_eq_true rfl) (fun r u h_4 => ?_)
  rcases h_4 with ⟨rfl, c_4⟩ | ⟨rfl, c_4⟩
  · refine J_if_ne (tgt := 14) hC dX11_out_7 (by decide) (fun _ => ?_) (fun c => absurd c (by decide))
    refine J_iconst (v := 0) hC dX11_out_14 rfl ?_
    refine J_iconst (v := 2) hC dX11_out_15 rfl ?_
    refine J_callVi hC dX11_out_16 wl_X11_141 yi_X11_refuses (c_X11_refuses_0 _ G m M 2 (by first | assumption | rfl)) rfl rfl 0 11 rfl rfl ⟨Nat.le_of_ble_eq_true rfl, Nat.le_of_ble_eq_true rfl⟩ (Nat.le_of_ble_eq_true rfl) (Nat.le_of_ble_eq_true rfl) (Nat.le_of_ble_eq_true rfl) (fun r u h_16 => ?_)
    obtain ⟨c_16, rfl, rfl⟩ := h_16
    refine J_iret hC hR dX11_out_19 rfl M ?_ ?_ (by decide) (by decide)
    · exact Or.inl ⟨c_4, rfl, rfl⟩
    · rfl
  · refine J_if_ne (tgt := 14) hC dX11_out_7 (by decide) (fun c => absurd (by decide) c) (fun _ => ?_)
    refine J_iconst (v := 1) hC dX11_out_10 rfl ?_
    refine J_goto (tgt := 15) hC dX11_out_11 (by decide) ?_
    refine J_iconst (v := 2) hC dX11_out_15 rfl ?_
    refine J_callVi hC dX11_out_16 wl_X11_141 yi_X11_refuses (c_X11_refuses_1 _ G m M 2 (by first | assumption | rfl) (by decide)) rfl rfl 0 11 rfl rfl ⟨Nat.le_of_ble_eq_true rfl, Nat.le_of_ble_eq_true rfl⟩ (Nat.le_of_ble_eq_true rfl) (Nat.le_of_ble_eq_true rfl) (Nat.le_of_ble_eq_true rfl) (fun r u h_16 => ?_)
    obtain ⟨c_16, rfl, rfl⟩ := h_16
    refine J_iret hC hR dX11_out_19 rfl (us M 8 2 2) ?_ ?_ (by decide) (by decide)
    · exact Or.inr (⟨c_4, rfl, rfl⟩)
    · rfl

set_option maxRecDepth 100000 in
set_option maxHeartbeats 4000000 in
theorem c_X11_noVillage (l : Launch) (G : gT) (m : Nat → Nat) (M : CT) (vc : Nat) (v : Int32) (hvc : M 0 6 = nI vc) (bvc : vc ≤ 6) : MI l yX11_noVillage cX11_noVillage 2 (some .boolean) { frames := 2, cells := 0, slots := 0, locals := 45 } [.ref (m 0), .int v] G (mdW G m M) (fun r (u : CT) => ((inr v vc) ∧ 0 = r ∧ (us M 8 2 0) = u) ∨ ((¬ inr v vc) ∧ 1 = r ∧ (us M 8 2 1) = u)) (fun u => mdW G m u) := by
  refine jm_i (own := RX11) (by decide) rfl (Nat.le_of_ble_eq_true rfl) (fun x hl hC hR hN => ?_)
  subst hl
  refine J_aload_n hC dX11_noVillage_0 0 rfl rfl ?_
  refine J_iload_n hC dX11_noVillage_1 1 rfl rfl ?_
  refine J_iconst (v := 0) hC dX11_noVillage_2 rfl ?_
  refine J_aload_n hC dX11_noVillage_3 0 rfl rfl ?_
  refine J_get (v := .ref (m 1)) hC wu_X11 rfl dX11_noVillage_4 0 0 (by decide) wf_X11_7 rfl rfl ?_
  refine J_bipush (v := 6) hC dX11_noVillage_7 (by decide +kernel) ?_
  refine J_iald (i := 6) (v := M 0 6) hC dX11_noVillage_9 1 rfl (by omega) (by decide) rfl ?_
  refine J_topi hvc ?_
  refine J_iconst (v := 1) hC dX11_noVillage_10 rfl ?_
  refine J_isub (v := (nI vc) - 1) hC dX11_noVillage_11 rfl ?_
  refine J_callVi hC dX11_noVillage_12 wl_X11_149 yi_X11_noNumber (c_X11_noNumber _ G m M v 0 ((nI vc) - 1)) rfl rfl 0 11 rfl rfl ⟨Nat.le_of_ble_eq_true rfl, Nat.le_of_ble_eq_true rfl⟩ (Nat.le_of_ble_eq_true rfl) (Nat.le_of_ble_eq_true rfl) (Nat.le_of_ble_eq_true rfl) (fun r u h_12 => ?_)
  rcases h_12 with ⟨c_12, rfl, rfl⟩ | ⟨c_12, rfl, rfl⟩
  · refine J_iret hC hR dX11_noVillage_15 rfl (us M 8 2 0) ?_ ?_ (by decide) (by decide)
    · exact Or.inl ⟨(inr_m1 (n := vc) (by omega)).mp c_12, rfl, rfl⟩
    · rfl
  · refine J_iret hC hR dX11_noVillage_15 rfl (us M 8 2 1) ?_ ?_ (by decide) (by decide)
    · exact Or.inr (⟨mt (inr_m1 (n := vc) (by omega)).mpr c_12, rfl, rfl⟩)
    · rfl

set_option maxRecDepth 100000 in
set_option maxHeartbeats 4000000 in
theorem c_X11_noFair (l : Launch) (G : gT) (m : Nat → Nat) (M : CT) (fc : Nat) (v : Int32) (hfc : M 0 7 = nI fc) (bfc : fc ≤ 6) : MI l yX11_noFair cX11_noFair 2 (some .boolean) { frames := 2, cells := 0, slots := 0, locals := 45 } [.ref (m 0), .int v] G (mdW G m M) (fun r (u : CT) => ((inr v fc) ∧ 0 = r ∧ (us M 8 2 0) = u) ∨ ((¬ inr v fc) ∧ 1 = r ∧ (us M 8 2 1) = u)) (fun u => mdW G m u) := by
  refine jm_i (own := RX11) (by decide) rfl (Nat.le_of_ble_eq_true rfl) (fun x hl hC hR hN => ?_)
  subst hl
  refine J_aload_n hC dX11_noFair_0 0 rfl rfl ?_
  refine J_iload_n hC dX11_noFair_1 1 rfl rfl ?_
  refine J_iconst (v := 0) hC dX11_noFair_2 rfl ?_
  refine J_aload_n hC dX11_noFair_3 0 rfl rfl ?_
  refine J_get (v := .ref (m 1)) hC wu_X11 rfl dX11_noFair_4 0 0 (by decide) wf_X11_7 rfl rfl ?_
  refine J_bipush (v := 7) hC dX11_noFair_7 (by decide +kernel) ?_
  refine J_iald (i := 7) (v := M 0 7) hC dX11_noFair_9 1 rfl (by omega) (by decide) rfl ?_
  refine J_topi hfc ?_
  refine J_iconst (v := 1) hC dX11_noFair_10 rfl ?_
  refine J_isub (v := (nI fc) - 1) hC dX11_noFair_11 rfl ?_
  refine J_callVi hC dX11_noFair_12 wl_X11_149 yi_X11_noNumber (c_X11_noNumber _ G m M v 0 ((nI fc) - 1)) rfl rfl 0 11 rfl rfl ⟨Nat.le_of_ble_eq_true rfl, Nat.le_of_ble_eq_true rfl⟩ (Nat.le_of_ble_eq_true rfl) (Nat.le_of_ble_eq_true rfl) (Nat.le_of_ble_eq_true rfl) (fun r u h_12 => ?_)
  rcases h_12 with ⟨c_12, rfl, rfl⟩ | ⟨c_12, rfl, rfl⟩
  · refine J_iret hC hR dX11_noFair_15 rfl (us M 8 2 0) ?_ ?_ (by decide) (by decide)
    · exact Or.inl ⟨(inr_m1 (n := fc) (by omega)).mp c_12, rfl, rfl⟩
    · rfl
  · refine J_iret hC hR dX11_noFair_15 rfl (us M 8 2 1) ?_ ?_ (by decide) (by decide)
    · exact Or.inr (⟨mt (inr_m1 (n := fc) (by omega)).mpr c_12, rfl, rfl⟩)
    · rfl

set_option maxRecDepth 100000 in
set_option maxHeartbeats 4000000 in
theorem c_X11_noWeather (l : Launch) (G : gT) (m : Nat → Nat) (M : CT) (v : Int32) : MI l yX11_noWeather cX11_noWeather 2 (some .boolean) { frames := 2, cells := 0, slots := 0, locals := 45 } [.ref (m 0), .int v] G (mdW G m M) (fun r (u : CT) => ((inr v 3) ∧ 0 = r ∧ (us M 8 2 0) = u) ∨ ((¬ inr v 3) ∧ 1 = r ∧ (us M 8 2 1) = u)) (fun u => mdW G m u) := by
  refine jm_i (own := RX11) (by decide) rfl (Nat.le_of_ble_eq_true rfl) (fun x hl hC hR hN => ?_)
  subst hl
  refine J_aload_n hC dX11_noWeather_0 0 rfl rfl ?_
  refine J_iload_n hC dX11_noWeather_1 1 rfl rfl ?_
  refine J_iconst (v := 0) hC dX11_noWeather_2 rfl ?_
  refine J_iconst (v := 2) hC dX11_noWeather_3 rfl ?_
  refine J_callVi hC dX11_noWeather_4 wl_X11_149 yi_X11_noNumber (c_X11_noNumber _ G m M v 0 2) rfl rfl 0 11 rfl rfl ⟨Nat.le_of_ble_eq_true rfl, Nat.le_of_ble_eq_true rfl⟩ (Nat.le_of_ble_eq_true rfl) (Nat.le_of_ble_eq_true rfl) (Nat.le_of_ble_eq_true rfl) (fun r u h_4 => ?_)
  rcases h_4 with ⟨c_4, rfl, rfl⟩ | ⟨c_4, rfl, rfl⟩
  · refine J_iret hC hR dX11_noWeather_7 rfl (us M 8 2 0) ?_ ?_ (by decide) (by decide)
    · exact Or.inl ⟨(inr_le (n := 2) (by omega)).mp c_4, rfl, rfl⟩
    · rfl
  · refine J_iret hC hR dX11_noWeather_7 rfl (us M 8 2 1) ?_ ?_ (by decide) (by decide)
    · exact Or.inr (⟨mt (inr_le (n := 2) (by omega)).mpr c_4, rfl, rfl⟩)
    · rfl

set_option maxRecDepth 100000 in
set_option maxHeartbeats 4000000 in
theorem c_X11_noPage (l : Launch) (G : gT) (m : Nat → Nat) (M : CT) (bc : Nat) (v : Int32) (hbc : M 0 8 = nI bc) (bbc : bc ≤ 30) : MI l yX11_noPage cX11_noPage 2 (some .boolean) { frames := 2, cells := 0, slots := 0, locals := 45 } [.ref (m 0), .int v] G (mdW G m M) (fun r (u : CT) => ((inr v ((bc + 4 - 1) / 4)) ∧ 0 = r ∧ (us M 8 2 0) = u) ∨ ((¬ inr v ((bc + 4 - 1) / 4)) ∧ 1 = r ∧ (us M 8 2 1) = u)) (fun u => mdW G m u) := by
  refine jm_i (own := RX11) (by decide) rfl (Nat.le_of_ble_eq_true rfl) (fun x hl hC hR hN => ?_)
  subst hl
  refine J_aload_n hC dX11_noPage_0 0 rfl rfl ?_
  refine J_iload_n hC dX11_noPage_1 1 rfl rfl ?_
  refine J_iconst (v := 0) hC dX11_noPage_2 rfl ?_
  refine J_aload_n hC dX11_noPage_3 0 rfl rfl ?_
  refine J_get (v := .ref (m 1)) hC wu_X11 rfl dX11_noPage_4 0 0 (by decide) wf_X11_7 rfl rfl ?_
  refine J_callSi hC dX11_noPage_7 wl_X11_236 wi_X11 yi_X11_pages (mdl0_ir (c_X11_pages _ G (m 1) (M 0) bc (hbc) (by omega))) rfl rfl ⟨Nat.le_of_ble_eq_true rfl, Nat.le_of_ble_eq_true rfl⟩ (Nat.le_of_ble_eq_true rfl) (Nat.le_of_ble_eq_true rfl) (Nat.le_of_ble_eq_true rfl) (fun r u h_7 => ?_)
  subst h_7
  refine J_iconst (v := 1) hC dX11_noPage_10 rfl ?_
  refine J_isub (v := (nI ((bc + 4 - 1) / 4)) - 1) hC dX11_noPage_11 rfl ?_
  refine J_callVi hC dX11_noPage_12 wl_X11_149 yi_X11_noNumber (c_X11_noNumber _ G m M v 0 ((nI ((bc + 4 - 1) / 4)) - 1)) rfl rfl 0 11 rfl rfl ⟨Nat.le_of_ble_eq_true rfl, Nat.le_of_ble_eq_true rfl⟩ (Nat.le_of_ble_eq_true rfl) (Nat.le_of_ble_eq_true rfl) (Nat.le_of_ble_eq_true rfl) (fun r u h_12 => ?_)
  rcases h_12 with ⟨c_12, rfl, rfl⟩ | ⟨c_12, rfl, rfl⟩
  · refine J_iret hC hR dX11_noPage_15 rfl (us M 8 2 0) ?_ ?_ (by decide) (by decide)
    · exact Or.inl ⟨(inr_m1 (n := ((bc + 4 - 1) / 4)) (by omega)).mp c_12, rfl, rfl⟩
    · rfl
  · refine J_iret hC hR dX11_noPage_15 rfl (us M 8 2 1) ?_ ?_ (by decide) (by decide)
    · exact Or.inr (⟨mt (inr_m1 (n := ((bc + 4 - 1) / 4)) (by omega)).mpr c_12, rfl, rfl⟩)
    · rfl

set_option maxRecDepth 100000 in
set_option maxHeartbeats 4000000 in
theorem c_X11_thrown (l : Launch) (G : gT) (m : Nat → Nat) (M : CT) : MI l yX11_thrown cX11_thrown 1 (some .int) { frames := 0, cells := 0, slots := 0, locals := 0 } [.ref (m 0)] G (mdW G m M) (fun r (_ : Unit) => r = M 8 2) (fun _ => mdW G m M) := by
  refine jm_i (own := RX11) (by decide) rfl (Nat.le_of_ble_eq_true rfl) (fun x hl hC hR hN => ?_)
  subst hl
  refine J_aload_n hC dX11_thrown_0 0 rfl rfl ?_
  refine J_get (v := .int (M 8 2)) hC wu_X11 rfl dX11_thrown_1 0 8 (by decide) wf_X11_66 rfl rfl ?_
  refine J_iret hC hR dX11_thrown_4 rfl () ?_ ?_ (by decide) (by decide)
  · rfl
  · rfl

set_option maxRecDepth 100000 in
set_option maxHeartbeats 4000000 in
theorem c_X11_day (l : Launch) (G : gT) (m : Nat → Nat) (M : CT) : MI l yX11_day cX11_day 1 (some .int) { frames := 0, cells := 0, slots := 0, locals := 0 } [.ref (m 0)] G (mdW G m M) (fun r (_ : Unit) => r = M 0 5) (fun _ => mdW G m (us M 8 2 0)) := by
  refine jm_i (own := RX11) (by decide) rfl (Nat.le_of_ble_eq_true rfl) (fun x hl hC hR hN => ?_)
  subst hl
  refine J_aload_n hC dX11_day_0 0 rfl rfl ?_
  refine J_iconst (v := 0) hC dX11_day_1 rfl ?_
  refine J_put (ws' := mdW G m (us M 8 2 0)) hC wu_X11 rfl tyX11_ok nmX11 dX11_day_2 0 8 (by decide) wf_X11_66 rfl rfl (Nat.le_of_ble_eq_true rfl) rfl rfl rfl ?_
  refine J_aload_n hC dX11_day_5 0 rfl rfl ?_
  refine J_get (v := .ref (m 1)) hC wu_X11 rfl dX11_day_6 0 0 (by decide) wf_X11_7 rfl rfl ?_
  refine J_iconst (v := 5) hC dX11_day_9 rfl ?_
  refine J_iald (i := 5) (v := M 0 5) hC dX11_day_10 1 rfl (by omega) (by decide) rfl ?_
  refine J_iret hC hR dX11_day_11 rfl () ?_ ?_ (by decide) (by decide)
  · rfl
  · rfl

set_option maxRecDepth 100000 in
set_option maxHeartbeats 4000000 in
theorem c_X11_seed (l : Launch) (G : gT) (m : Nat → Nat) (M : CT) : MI l yX11_seed cX11_seed 1 (some .int) { frames := 0, cells := 0, slots := 0, locals := 0 } [.ref (m 0)] G (mdW G m M) (fun r (_ : Unit) => r = M 0 0) (fun _ => mdW G m (us M 8 2 0)) := by
  refine jm_i (own := RX11) (by decide) rfl (Nat.le_of_ble_eq_true rfl) (fun x hl hC hR hN => ?_)
  subst hl
  refine J_aload_n hC dX11_seed_0 0 rfl rfl ?_
  refine J_iconst (v := 0) hC dX11_seed_1 rfl ?_
  refine J_put (ws' := mdW G m (us M 8 2 0)) hC wu_X11 rfl tyX11_ok nmX11 dX11_seed_2 0 8 (by decide) wf_X11_66 rfl rfl (Nat.le_of_ble_eq_true rfl) rfl rfl rfl ?_
  refine J_aload_n hC dX11_seed_5 0 rfl rfl ?_
  refine J_get (v := .ref (m 1)) hC wu_X11 rfl dX11_seed_6 0 0 (by decide) wf_X11_7 rfl rfl ?_
  refine J_iconst (v := 0) hC dX11_seed_9 rfl ?_
  refine J_iald (i := 0) (v := M 0 0) hC dX11_seed_10 1 rfl (by omega) (by decide) rfl ?_
  refine J_iret hC hR dX11_seed_11 rfl () ?_ ?_ (by decide) (by decide)
  · rfl
  · rfl

set_option maxRecDepth 100000 in
set_option maxHeartbeats 4000000 in
theorem c_X11_coins (l : Launch) (G : gT) (m : Nat → Nat) (M : CT) : MI l yX11_coins cX11_coins 1 (some .int) { frames := 0, cells := 0, slots := 0, locals := 0 } [.ref (m 0)] G (mdW G m M) (fun r (_ : Unit) => r = M 0 4) (fun _ => mdW G m (us M 8 2 0)) := by
  refine jm_i (own := RX11) (by decide) rfl (Nat.le_of_ble_eq_true rfl) (fun x hl hC hR hN => ?_)
  subst hl
  refine J_aload_n hC dX11_coins_0 0 rfl rfl ?_
  refine J_iconst (v := 0) hC dX11_coins_1 rfl ?_
  refine J_put (ws' := mdW G m (us M 8 2 0)) hC wu_X11 rfl tyX11_ok nmX11 dX11_coins_2 0 8 (by decide) wf_X11_66 rfl rfl (Nat.le_of_ble_eq_true rfl) rfl rfl rfl ?_
  refine J_aload_n hC dX11_coins_5 0 rfl rfl ?_
  refine J_get (v := .ref (m 1)) hC wu_X11 rfl dX11_coins_6 0 0 (by decide) wf_X11_7 rfl rfl ?_
  refine J_iconst (v := 4) hC dX11_coins_9 rfl ?_
  refine J_iald (i := 4) (v := M 0 4) hC dX11_coins_10 1 rfl (by omega) (by decide) rfl ?_
  refine J_iret hC hR dX11_coins_11 rfl () ?_ ?_ (by decide) (by decide)
  · rfl
  · rfl

set_option maxRecDepth 100000 in
set_option maxHeartbeats 4000000 in
theorem c_X11_villageCount (l : Launch) (G : gT) (m : Nat → Nat) (M : CT) : MI l yX11_villageCount cX11_villageCount 1 (some .int) { frames := 0, cells := 0, slots := 0, locals := 0 } [.ref (m 0)] G (mdW G m M) (fun r (_ : Unit) => r = M 0 6) (fun _ => mdW G m (us M 8 2 0)) := by
  refine jm_i (own := RX11) (by decide) rfl (Nat.le_of_ble_eq_true rfl) (fun x hl hC hR hN => ?_)
  subst hl
  refine J_aload_n hC dX11_villageCount_0 0 rfl rfl ?_
  refine J_iconst (v := 0) hC dX11_villageCount_1 rfl ?_
  refine J_put (ws' := mdW G m (us M 8 2 0)) hC wu_X11 rfl tyX11_ok nmX11 dX11_villageCount_2 0 8 (by decide) wf_X11_66 rfl rfl (Nat.le_of_ble_eq_true rfl) rfl rfl rfl ?_
  refine J_aload_n hC dX11_villageCount_5 0 rfl rfl ?_
  refine J_get (v := .ref (m 1)) hC wu_X11 rfl dX11_villageCount_6 0 0 (by decide) wf_X11_7 rfl rfl ?_
  refine J_bipush (v := 6) hC dX11_villageCount_9 (by decide +kernel) ?_
  refine J_iald (i := 6) (v := M 0 6) hC dX11_villageCount_11 1 rfl (by omega) (by decide) rfl ?_
  refine J_iret hC hR dX11_villageCount_12 rfl () ?_ ?_ (by decide) (by decide)
  · rfl
  · rfl

set_option maxRecDepth 100000 in
set_option maxHeartbeats 4000000 in
theorem c_X11_fairCount (l : Launch) (G : gT) (m : Nat → Nat) (M : CT) : MI l yX11_fairCount cX11_fairCount 1 (some .int) { frames := 0, cells := 0, slots := 0, locals := 0 } [.ref (m 0)] G (mdW G m M) (fun r (_ : Unit) => r = M 0 7) (fun _ => mdW G m (us M 8 2 0)) := by
  refine jm_i (own := RX11) (by decide) rfl (Nat.le_of_ble_eq_true rfl) (fun x hl hC hR hN => ?_)
  subst hl
  refine J_aload_n hC dX11_fairCount_0 0 rfl rfl ?_
  refine J_iconst (v := 0) hC dX11_fairCount_1 rfl ?_
  refine J_put (ws' := mdW G m (us M 8 2 0)) hC wu_X11 rfl tyX11_ok nmX11 dX11_fairCount_2 0 8 (by decide) wf_X11_66 rfl rfl (Nat.le_of_ble_eq_true rfl) rfl rfl rfl ?_
  refine J_aload_n hC dX11_fairCount_5 0 rfl rfl ?_
  refine J_get (v := .ref (m 1)) hC wu_X11 rfl dX11_fairCount_6 0 0 (by decide) wf_X11_7 rfl rfl ?_
  refine J_bipush (v := 7) hC dX11_fairCount_9 (by decide +kernel) ?_
  refine J_iald (i := 7) (v := M 0 7) hC dX11_fairCount_11 1 rfl (by omega) (by decide) rfl ?_
  refine J_iret hC hR dX11_fairCount_12 rfl () ?_ ?_ (by decide) (by decide)
  · rfl
  · rfl

set_option maxRecDepth 100000 in
set_option maxHeartbeats 4000000 in
theorem c_X11_forecastCount (l : Launch) (G : gT) (m : Nat → Nat) (M : CT) : MI l yX11_forecastCount cX11_forecastCount 1 (some .int) { frames := 0, cells := 0, slots := 0, locals := 0 } [.ref (m 0)] G (mdW G m M) (fun r (_ : Unit) => r = M 0 8) (fun _ => mdW G m (us M 8 2 0)) := by
  refine jm_i (own := RX11) (by decide) rfl (Nat.le_of_ble_eq_true rfl) (fun x hl hC hR hN => ?_)
  subst hl
  refine J_aload_n hC dX11_forecastCount_0 0 rfl rfl ?_
  refine J_iconst (v := 0) hC dX11_forecastCount_1 rfl ?_
  refine J_put (ws' := mdW G m (us M 8 2 0)) hC wu_X11 rfl tyX11_ok nmX11 dX11_forecastCount_2 0 8 (by decide) wf_X11_66 rfl rfl (Nat.le_of_ble_eq_true rfl) rfl rfl rfl ?_
  refine J_aload_n hC dX11_forecastCount_5 0 rfl rfl ?_
  refine J_get (v := .ref (m 1)) hC wu_X11 rfl dX11_forecastCount_6 0 0 (by decide) wf_X11_7 rfl rfl ?_
  refine J_bipush (v := 8) hC dX11_forecastCount_9 (by decide +kernel) ?_
  refine J_iald (i := 8) (v := M 0 8) hC dX11_forecastCount_11 1 rfl (by omega) (by decide) rfl ?_
  refine J_iret hC hR dX11_forecastCount_12 rfl () ?_ ?_ (by decide) (by decide)
  · rfl
  · rfl

set_option maxRecDepth 100000 in
set_option maxHeartbeats 4000000 in
theorem c_X11_regretCount (l : Launch) (G : gT) (m : Nat → Nat) (M : CT) : MI l yX11_regretCount cX11_regretCount 1 (some .int) { frames := 0, cells := 0, slots := 0, locals := 0 } [.ref (m 0)] G (mdW G m M) (fun r (_ : Unit) => r = M 0 9) (fun _ => mdW G m (us M 8 2 0)) := by
  refine jm_i (own := RX11) (by decide) rfl (Nat.le_of_ble_eq_true rfl) (fun x hl hC hR hN => ?_)
  subst hl
  refine J_aload_n hC dX11_regretCount_0 0 rfl rfl ?_
  refine J_iconst (v := 0) hC dX11_regretCount_1 rfl ?_
  refine J_put (ws' := mdW G m (us M 8 2 0)) hC wu_X11 rfl tyX11_ok nmX11 dX11_regretCount_2 0 8 (by decide) wf_X11_66 rfl rfl (Nat.le_of_ble_eq_true rfl) rfl rfl rfl ?_
  refine J_aload_n hC dX11_regretCount_5 0 rfl rfl ?_
  refine J_get (v := .ref (m 1)) hC wu_X11 rfl dX11_regretCount_6 0 0 (by decide) wf_X11_7 rfl rfl ?_
  refine J_bipush (v := 9) hC dX11_regretCount_9 (by decide +kernel) ?_
  refine J_iald (i := 9) (v := M 0 9) hC dX11_regretCount_11 1 rfl (by omega) (by decide) rfl ?_
  refine J_iret hC hR dX11_regretCount_12 rfl () ?_ ?_ (by decide) (by decide)
  · rfl
  · rfl

set_option maxRecDepth 100000 in
set_option maxHeartbeats 4000000 in
theorem c_X11_hits (l : Launch) (G : gT) (m : Nat → Nat) (M : CT) : MI l yX11_hits cX11_hits 1 (some .int) { frames := 0, cells := 0, slots := 0, locals := 0 } [.ref (m 0)] G (mdW G m M) (fun r (_ : Unit) => r = M 0 10) (fun _ => mdW G m (us M 8 2 0)) := by
  refine jm_i (own := RX11) (by decide) rfl (Nat.le_of_ble_eq_true rfl) (fun x hl hC hR hN => ?_)
  subst hl
  refine J_aload_n hC dX11_hits_0 0 rfl rfl ?_
  refine J_iconst (v := 0) hC dX11_hits_1 rfl ?_
  refine J_put (ws' := mdW G m (us M 8 2 0)) hC wu_X11 rfl tyX11_ok nmX11 dX11_hits_2 0 8 (by decide) wf_X11_66 rfl rfl (Nat.le_of_ble_eq_true rfl) rfl rfl rfl ?_
  refine J_aload_n hC dX11_hits_5 0 rfl rfl ?_
  refine J_get (v := .ref (m 1)) hC wu_X11 rfl dX11_hits_6 0 0 (by decide) wf_X11_7 rfl rfl ?_
  refine J_bipush (v := 10) hC dX11_hits_9 (by decide +kernel) ?_
  refine J_iald (i := 10) (v := M 0 10) hC dX11_hits_11 1 rfl (by omega) (by decide) rfl ?_
  refine J_iret hC hR dX11_hits_12 rfl () ?_ ?_ (by decide) (by decide)
  · rfl
  · rfl

set_option maxRecDepth 100000 in
set_option maxHeartbeats 4000000 in
theorem c_X11_regrets (l : Launch) (G : gT) (m : Nat → Nat) (M : CT) : MI l yX11_regrets cX11_regrets 1 (some .int) { frames := 0, cells := 0, slots := 0, locals := 0 } [.ref (m 0)] G (mdW G m M) (fun r (_ : Unit) => r = M 0 11) (fun _ => mdW G m (us M 8 2 0)) := by
  refine jm_i (own := RX11) (by decide) rfl (Nat.le_of_ble_eq_true rfl) (fun x hl hC hR hN => ?_)
  subst hl
  refine J_aload_n hC dX11_regrets_0 0 rfl rfl ?_
  refine J_iconst (v := 0) hC dX11_regrets_1 rfl ?_
  refine J_put (ws' := mdW G m (us M 8 2 0)) hC wu_X11 rfl tyX11_ok nmX11 dX11_regrets_2 0 8 (by decide) wf_X11_66 rfl rfl (Nat.le_of_ble_eq_true rfl) rfl rfl rfl ?_
  refine J_aload_n hC dX11_regrets_5 0 rfl rfl ?_
  refine J_get (v := .ref (m 1)) hC wu_X11 rfl dX11_regrets_6 0 0 (by decide) wf_X11_7 rfl rfl ?_
  refine J_bipush (v := 11) hC dX11_regrets_9 (by decide +kernel) ?_
  refine J_iald (i := 11) (v := M 0 11) hC dX11_regrets_11 1 rfl (by omega) (by decide) rfl ?_
  refine J_iret hC hR dX11_regrets_12 rfl () ?_ ?_ (by decide) (by decide)
  · rfl
  · rfl

set_option maxRecDepth 100000 in
set_option maxHeartbeats 4000000 in
theorem c_X11_retractions (l : Launch) (G : gT) (m : Nat → Nat) (M : CT) : MI l yX11_retractions cX11_retractions 1 (some .int) { frames := 0, cells := 0, slots := 0, locals := 0 } [.ref (m 0)] G (mdW G m M) (fun r (_ : Unit) => r = M 0 12) (fun _ => mdW G m (us M 8 2 0)) := by
  refine jm_i (own := RX11) (by decide) rfl (Nat.le_of_ble_eq_true rfl) (fun x hl hC hR hN => ?_)
  subst hl
  refine J_aload_n hC dX11_retractions_0 0 rfl rfl ?_
  refine J_iconst (v := 0) hC dX11_retractions_1 rfl ?_
  refine J_put (ws' := mdW G m (us M 8 2 0)) hC wu_X11 rfl tyX11_ok nmX11 dX11_retractions_2 0 8 (by decide) wf_X11_66 rfl rfl (Nat.le_of_ble_eq_true rfl) rfl rfl rfl ?_
  refine J_aload_n hC dX11_retractions_5 0 rfl rfl ?_
  refine J_get (v := .ref (m 1)) hC wu_X11 rfl dX11_retractions_6 0 0 (by decide) wf_X11_7 rfl rfl ?_
  refine J_bipush (v := 12) hC dX11_retractions_9 (by decide +kernel) ?_
  refine J_iald (i := 12) (v := M 0 12) hC dX11_retractions_11 1 rfl (by omega) (by decide) rfl ?_
  refine J_iret hC hR dX11_retractions_12 rfl () ?_ ?_ (by decide) (by decide)
  · rfl
  · rfl

set_option maxRecDepth 100000 in
set_option maxHeartbeats 4000000 in
theorem c_X11_errorCode (l : Launch) (G : gT) (m : Nat → Nat) (M : CT) : MI l yX11_errorCode cX11_errorCode 1 (some .int) { frames := 0, cells := 0, slots := 0, locals := 0 } [.ref (m 0)] G (mdW G m M) (fun r (_ : Unit) => r = M 8 9) (fun _ => mdW G m (us M 8 2 0)) := by
  refine jm_i (own := RX11) (by decide) rfl (Nat.le_of_ble_eq_true rfl) (fun x hl hC hR hN => ?_)
  subst hl
  refine J_aload_n hC dX11_errorCode_0 0 rfl rfl ?_
  refine J_iconst (v := 0) hC dX11_errorCode_1 rfl ?_
  refine J_put (ws' := mdW G m (us M 8 2 0)) hC wu_X11 rfl tyX11_ok nmX11 dX11_errorCode_2 0 8 (by decide) wf_X11_66 rfl rfl (Nat.le_of_ble_eq_true rfl) rfl rfl rfl ?_
  refine J_aload_n hC dX11_errorCode_5 0 rfl rfl ?_
  refine J_get (v := .int (M 8 9)) hC wu_X11 rfl dX11_errorCode_6 0 16 (by decide) wf_X11_153 rfl rfl ?_
  refine J_iret hC hR dX11_errorCode_9 rfl () ?_ ?_ (by decide) (by decide)
  · rfl
  · rfl

set_option maxRecDepth 100000 in
set_option maxHeartbeats 4000000 in
theorem c_X11_errorPosition (l : Launch) (G : gT) (m : Nat → Nat) (M : CT) : MI l yX11_errorPosition cX11_errorPosition 1 (some .int) { frames := 0, cells := 0, slots := 0, locals := 0 } [.ref (m 0)] G (mdW G m M) (fun r (_ : Unit) => r = M 8 10) (fun _ => mdW G m (us M 8 2 0)) := by
  refine jm_i (own := RX11) (by decide) rfl (Nat.le_of_ble_eq_true rfl) (fun x hl hC hR hN => ?_)
  subst hl
  refine J_aload_n hC dX11_errorPosition_0 0 rfl rfl ?_
  refine J_iconst (v := 0) hC dX11_errorPosition_1 rfl ?_
  refine J_put (ws' := mdW G m (us M 8 2 0)) hC wu_X11 rfl tyX11_ok nmX11 dX11_errorPosition_2 0 8 (by decide) wf_X11_66 rfl rfl (Nat.le_of_ble_eq_true rfl) rfl rfl rfl ?_
  refine J_aload_n hC dX11_errorPosition_5 0 rfl rfl ?_
  refine J_get (v := .int (M 8 10)) hC wu_X11 rfl dX11_errorPosition_6 0 17 (by decide) wf_X11_32 rfl rfl ?_
  refine J_iret hC hR dX11_errorPosition_9 rfl () ?_ ?_ (by decide) (by decide)
  · rfl
  · rfl

set_option maxRecDepth 100000 in
set_option maxHeartbeats 4000000 in
theorem c_X11_pageCount (l : Launch) (G : gT) (m : Nat → Nat) (M : CT) (bc : Nat) (hbc : M 0 8 = nI bc) (bbc : bc ≤ 30) : MI l yX11_pageCount cX11_pageCount 1 (some .int) { frames := 1, cells := 0, slots := 0, locals := 20 } [.ref (m 0)] G (mdW G m M) (fun r (_ : Unit) => r = nI ((bc + 4 - 1) / 4)) (fun _ => mdW G m (us M 8 2 0)) := by
  refine jm_i (own := RX11) (by decide) rfl (Nat.le_of_ble_eq_true rfl) (fun x hl hC hR hN => ?_)
  subst hl
  refine J_aload_n hC dX11_pageCount_0 0 rfl rfl ?_
  refine J_iconst (v := 0) hC dX11_pageCount_1 rfl ?_
  refine J_put (ws' := mdW G m (us M 8 2 0)) hC wu_X11 rfl tyX11_ok nmX11 dX11_pageCount_2 0 8 (by decide) wf_X11_66 rfl rfl (Nat.le_of_ble_eq_true rfl) rfl rfl rfl ?_
  refine J_aload_n hC dX11_pageCount_5 0 rfl rfl ?_
  refine J_get (v := .ref (m 1)) hC wu_X11 rfl dX11_pageCount_6 0 0 (by decide) wf_X11_7 rfl rfl ?_
  refine J_callSi hC dX11_pageCount_9 wl_X11_236 wi_X11 yi_X11_pages (mdl0_ir (c_X11_pages _ G (m 1) (M 0) bc (hbc) (by omega))) rfl rfl ⟨Nat.le_of_ble_eq_true rfl, Nat.le_of_ble_eq_true rfl⟩ (Nat.le_of_ble_eq_true rfl) (Nat.le_of_ble_eq_true rfl) (Nat.le_of_ble_eq_true rfl) (fun r u h_9 => ?_)
  subst h_9
  refine J_iret hC hR dX11_pageCount_12 rfl () ?_ ?_ (by decide) (by decide)
  · rfl
  · rfl

set_option maxRecDepth 100000 in
set_option maxHeartbeats 4000000 in
theorem c_X11_coinDifference (l : Launch) (G : gT) (m : Nat → Nat) (M : CT) : MI l yX11_coinDifference cX11_coinDifference 1 (some .int) { frames := 0, cells := 0, slots := 0, locals := 0 } [.ref (m 0)] G (mdW G m M) (fun r (_ : Unit) => r = M 0 15 - M 0 16 - M 0 4) (fun _ => mdW G m (us M 8 2 0)) := by
  refine jm_i (own := RX11) (by decide) rfl (Nat.le_of_ble_eq_true rfl) (fun x hl hC hR hN => ?_)
  subst hl
  refine J_aload_n hC dX11_coinDifference_0 0 rfl rfl ?_
  refine J_iconst (v := 0) hC dX11_coinDifference_1 rfl ?_
  refine J_put (ws' := mdW G m (us M 8 2 0)) hC wu_X11 rfl tyX11_ok nmX11 dX11_coinDifference_2 0 8 (by decide) wf_X11_66 rfl rfl (Nat.le_of_ble_eq_true rfl) rfl rfl rfl ?_
  refine J_aload_n hC dX11_coinDifference_5 0 rfl rfl ?_
  refine J_get (v := .ref (m 1)) hC wu_X11 rfl dX11_coinDifference_6 0 0 (by decide) wf_X11_7 rfl rfl ?_
  refine J_bipush (v := 15) hC dX11_coinDifference_9 (by decide +kernel) ?_
  refine J_iald (i := 15) (v := M 0 15) hC dX11_coinDifference_11 1 rfl (by omega) (by decide) rfl ?_
  refine J_aload_n hC dX11_coinDifference_12 0 rfl rfl ?_
  refine J_get (v := .ref (m 1)) hC wu_X11 rfl dX11_coinDifference_13 0 0 (by decide) wf_X11_7 rfl rfl ?_
  refine J_bipush (v := 16) hC dX11_coinDifference_16 (by decide +kernel) ?_
  refine J_iald (i := 16) (v := M 0 16) hC dX11_coinDifference_18 1 rfl (by omega) (by decide) rfl ?_
  refine J_isub (v := (M 0 15) - (M 0 16)) hC dX11_coinDifference_19 rfl ?_
  refine J_aload_n hC dX11_coinDifference_20 0 rfl rfl ?_
  refine J_get (v := .ref (m 1)) hC wu_X11 rfl dX11_coinDifference_21 0 0 (by decide) wf_X11_7 rfl rfl ?_
  refine J_iconst (v := 4) hC dX11_coinDifference_24 rfl ?_
  refine J_iald (i := 4) (v := M 0 4) hC dX11_coinDifference_25 1 rfl (by omega) (by decide) rfl ?_
  refine J_isub (v := ((M 0 15) - (M 0 16)) - (M 0 4)) hC dX11_coinDifference_26 rfl ?_
  refine J_iret hC hR dX11_coinDifference_27 rfl () ?_ ?_ (by decide) (by decide)
  · rfl
  · rfl

set_option maxRecDepth 100000 in
set_option maxHeartbeats 4000000 in
theorem c_X11_peopleOf (l : Launch) (G : gT) (m : Nat → Nat) (M : CT) (vc : Nat) (v : Int32) (hvc : M 0 6 = nI vc) (bvc : vc ≤ 6) : MI l yX11_peopleOf cX11_peopleOf 2 (some .int) { frames := 3, cells := 0, slots := 0, locals := 66 } [.ref (m 0), .int v] G (mdW G m M) (fun r (u : CT) => ((inr v vc) ∧ M 0 (25 + 3 * cl v) = r ∧ (us M 8 2 0) = u) ∨ ((¬ inr v vc) ∧ 0 = r ∧ (us M 8 2 1) = u)) (fun u => mdW G m u) := by
  refine jm_i (own := RX11) (by decide) rfl (Nat.le_of_ble_eq_true rfl) (fun x hl hC hR hN => ?_)
  subst hl
  refine J_aload_n hC dX11_peopleOf_0 0 rfl rfl ?_
  refine J_iload_n hC dX11_peopleOf_1 1 rfl rfl ?_
  refine J_callVi hC dX11_peopleOf_2 wl_X11_284 yi_X11_noVillage (c_X11_noVillage _ G m M vc v (hvc) (by omega)) rfl rfl 0 11 rfl rfl ⟨Nat.le_of_ble_eq_true rfl, Nat.le_of_ble_eq_true rfl⟩ (Nat.le_of_ble_eq_true rfl) (Nat.le_of_ble_eq_true rfl) (Nat.le_of_ble_eq_true rfl) (fun r u h_2 => ?_)
  rcases h_2 with ⟨c_2, rfl, rfl⟩ | ⟨c_2, rfl, rfl⟩
  · refine J_if_eq (tgt := 10) hC dX11_peopleOf_5 (by decide) (fun _ => ?_) (fun c => absurd (by decide) c)
    obtain ⟨ev, hv⟩ := inr_eq c_2 (by omega)
    refine J_lvq (lv' := [(0, .ref (m 0)), (1, .int (nI (cl v)))]) (by rw [← ev]; first | done | rfl) ?_
    refine J_aload_n hC dX11_peopleOf_10 0 rfl rfl ?_
    refine J_get (v := .ref (m 1)) hC wu_X11 rfl dX11_peopleOf_11 0 0 (by decide) wf_X11_7 rfl rfl ?_
    refine J_iload_n hC dX11_peopleOf_14 1 rfl rfl ?_
    refine J_callSi hC dX11_peopleOf_15 wl_X11_81 wi_X11 yi_X11_ofVillage (c_X11_ofVillage _ G (mdW G m (us M 8 2 0)) (cl v)) rfl rfl ⟨Nat.le_of_ble_eq_true rfl, Nat.le_of_ble_eq_true rfl⟩ (Nat.le_of_ble_eq_true rfl) (Nat.le_of_ble_eq_true rfl) (Nat.le_of_ble_eq_true rfl) (fun r u h_15 => ?_)
    subst h_15
    refine J_iconst (v := 1) hC dX11_peopleOf_18 rfl ?_
    refine J_iadd (v := nI (25 + 3 * cl v)) hC dX11_peopleOf_19 ((nI_add (24 + 3 * (cl v)) 1).trans (congrArg nI (by omega))) ?_
    refine J_iald (i := 25 + 3 * cl v) (v := M 0 (25 + 3 * cl v)) hC dX11_peopleOf_20 1 rfl (by omega) (by decide) rfl ?_
    refine J_iret hC hR dX11_peopleOf_21 rfl (us M 8 2 0) ?_ ?_ (by decide) (by decide)
    · exact Or.inl ⟨c_2, rfl, rfl⟩
    · rfl
  · refine J_if_eq (tgt := 10) hC dX11_peopleOf_5 (by decide) (fun c => absurd c (by decide)) (fun _ => ?_)
    refine J_iconst (v := 0) hC dX11_peopleOf_8 rfl ?_
    refine J_iret hC hR dX11_peopleOf_9 rfl (us M 8 2 1) ?_ ?_ (by decide) (by decide)
    · exact Or.inr (⟨c_2, rfl, rfl⟩)
    · rfl

set_option maxRecDepth 100000 in
set_option maxHeartbeats 4000000 in
theorem c_X11_trustOf (l : Launch) (G : gT) (m : Nat → Nat) (M : CT) (vc : Nat) (v : Int32) (hvc : M 0 6 = nI vc) (bvc : vc ≤ 6) : MI l yX11_trustOf cX11_trustOf 2 (some .int) { frames := 3, cells := 0, slots := 0, locals := 66 } [.ref (m 0), .int v] G (mdW G m M) (fun r (u : CT) => ((inr v vc) ∧ M 0 (26 + 3 * cl v) = r ∧ (us M 8 2 0) = u) ∨ ((¬ inr v vc) ∧ 0 = r ∧ (us M 8 2 1) = u)) (fun u => mdW G m u) := by
  refine jm_i (own := RX11) (by decide) rfl (Nat.le_of_ble_eq_true rfl) (fun x hl hC hR hN => ?_)
  subst hl
  refine J_aload_n hC dX11_trustOf_0 0 rfl rfl ?_
  refine J_iload_n hC dX11_trustOf_1 1 rfl rfl ?_
  refine J_callVi hC dX11_trustOf_2 wl_X11_284 yi_X11_noVillage (c_X11_noVillage _ G m M vc v (hvc) (by omega)) rfl rfl 0 11 rfl rfl ⟨Nat.le_of_ble_eq_true rfl, Nat.le_of_ble_eq_true rfl⟩ (Nat.le_of_ble_eq_true rfl) (Nat.le_of_ble_eq_true rfl) (Nat.le_of_ble_eq_true rfl) (fun r u h_2 => ?_)
  rcases h_2 with ⟨c_2, rfl, rfl⟩ | ⟨c_2, rfl, rfl⟩
  · refine J_if_eq (tgt := 10) hC dX11_trustOf_5 (by decide) (fun _ => ?_) (fun c => absurd (by decide) c)
    obtain ⟨ev, hv⟩ := inr_eq c_2 (by omega)
    refine J_lvq (lv' := [(0, .ref (m 0)), (1, .int (nI (cl v)))]) (by rw [← ev]; first | done | rfl) ?_
    refine J_aload_n hC dX11_trustOf_10 0 rfl rfl ?_
    refine J_get (v := .ref (m 1)) hC wu_X11 rfl dX11_trustOf_11 0 0 (by decide) wf_X11_7 rfl rfl ?_
    refine J_iload_n hC dX11_trustOf_14 1 rfl rfl ?_
    refine J_callSi hC dX11_trustOf_15 wl_X11_81 wi_X11 yi_X11_ofVillage (c_X11_ofVillage _ G (mdW G m (us M 8 2 0)) (cl v)) rfl rfl ⟨Nat.le_of_ble_eq_true rfl, Nat.le_of_ble_eq_true rfl⟩ (Nat.le_of_ble_eq_true rfl) (Nat.le_of_ble_eq_true rfl) (Nat.le_of_ble_eq_true rfl) (fun r u h_15 => ?_)
    subst h_15
    refine J_iconst (v := 2) hC dX11_trustOf_18 rfl ?_
    refine J_iadd (v := nI (26 + 3 * cl v)) hC dX11_trustOf_19 ((nI_add (24 + 3 * (cl v)) 2).trans (congrArg nI (by omega))) ?_
    refine J_iald (i := 26 + 3 * cl v) (v := M 0 (26 + 3 * cl v)) hC dX11_trustOf_20 1 rfl (by omega) (by decide) rfl ?_
    refine J_iret hC hR dX11_trustOf_21 rfl (us M 8 2 0) ?_ ?_ (by decide) (by decide)
    · exact Or.inl ⟨c_2, rfl, rfl⟩
    · rfl
  · refine J_if_eq (tgt := 10) hC dX11_trustOf_5 (by decide) (fun c => absurd c (by decide)) (fun _ => ?_)
    refine J_iconst (v := 0) hC dX11_trustOf_8 rfl ?_
    refine J_iret hC hR dX11_trustOf_9 rfl (us M 8 2 1) ?_ ?_ (by decide) (by decide)
    · exact Or.inr (⟨c_2, rfl, rfl⟩)
    · rfl

set_option maxRecDepth 100000 in
set_option maxHeartbeats 4000000 in
theorem c_X11_fairVillage (l : Launch) (G : gT) (m : Nat → Nat) (M : CT) (fc : Nat) (v : Int32) (hfc : M 0 7 = nI fc) (bfc : fc ≤ 6) : MI l yX11_fairVillage cX11_fairVillage 2 (some .int) { frames := 3, cells := 0, slots := 0, locals := 66 } [.ref (m 0), .int v] G (mdW G m M) (fun r (u : CT) => ((inr v fc) ∧ M 0 (43 + 5 * cl v) = r ∧ (us M 8 2 0) = u) ∨ ((¬ inr v fc) ∧ 0 = r ∧ (us M 8 2 1) = u)) (fun u => mdW G m u) := by
  refine jm_i (own := RX11) (by decide) rfl (Nat.le_of_ble_eq_true rfl) (fun x hl hC hR hN => ?_)
  subst hl
  refine J_aload_n hC dX11_fairVillage_0 0 rfl rfl ?_
  refine J_iload_n hC dX11_fairVillage_1 1 rfl rfl ?_
  refine J_callVi hC dX11_fairVillage_2 wl_X11_287 yi_X11_noFair (c_X11_noFair _ G m M fc v (hfc) (by omega)) rfl rfl 0 11 rfl rfl ⟨Nat.le_of_ble_eq_true rfl, Nat.le_of_ble_eq_true rfl⟩ (Nat.le_of_ble_eq_true rfl) (Nat.le_of_ble_eq_true rfl) (Nat.le_of_ble_eq_true rfl) (fun r u h_2 => ?_)
  rcases h_2 with ⟨c_2, rfl, rfl⟩ | ⟨c_2, rfl, rfl⟩
  · refine J_if_eq (tgt := 10) hC dX11_fairVillage_5 (by decide) (fun _ => ?_) (fun c => absurd (by decide) c)
    obtain ⟨ev, hv⟩ := inr_eq c_2 (by omega)
    refine J_lvq (lv' := [(0, .ref (m 0)), (1, .int (nI (cl v)))]) (by rw [← ev]; first | done | rfl) ?_
    refine J_aload_n hC dX11_fairVillage_10 0 rfl rfl ?_
    refine J_get (v := .ref (m 1)) hC wu_X11 rfl dX11_fairVillage_11 0 0 (by decide) wf_X11_7 rfl rfl ?_
    refine J_iload_n hC dX11_fairVillage_14 1 rfl rfl ?_
    refine J_callSi hC dX11_fairVillage_15 wl_X11_98 wi_X11 yi_X11_ofFair (c_X11_ofFair _ G (mdW G m (us M 8 2 0)) (cl v)) rfl rfl ⟨Nat.le_of_ble_eq_true rfl, Nat.le_of_ble_eq_true rfl⟩ (Nat.le_of_ble_eq_true rfl) (Nat.le_of_ble_eq_true rfl) (Nat.le_of_ble_eq_true rfl) (fun r u h_15 => ?_)
    subst h_15
    refine J_iconst (v := 1) hC dX11_fairVillage_18 rfl ?_
    refine J_iadd (v := nI (43 + 5 * cl v)) hC dX11_fairVillage_19 ((nI_add (42 + 5 * (cl v)) 1).trans (congrArg nI (by omega))) ?_
    refine J_iald (i := 43 + 5 * cl v) (v := M 0 (43 + 5 * cl v)) hC dX11_fairVillage_20 1 rfl (by omega) (by decide) rfl ?_
    refine J_iret hC hR dX11_fairVillage_21 rfl (us M 8 2 0) ?_ ?_ (by decide) (by decide)
    · exact Or.inl ⟨c_2, rfl, rfl⟩
    · rfl
  · refine J_if_eq (tgt := 10) hC dX11_fairVillage_5 (by decide) (fun c => absurd c (by decide)) (fun _ => ?_)
    refine J_iconst (v := 0) hC dX11_fairVillage_8 rfl ?_
    refine J_iret hC hR dX11_fairVillage_9 rfl (us M 8 2 1) ?_ ?_ (by decide) (by decide)
    · exact Or.inr (⟨c_2, rfl, rfl⟩)
    · rfl

set_option maxRecDepth 100000 in
set_option maxHeartbeats 4000000 in
theorem c_X11_periodOf (l : Launch) (G : gT) (m : Nat → Nat) (M : CT) (fc : Nat) (v : Int32) (hfc : M 0 7 = nI fc) (bfc : fc ≤ 6) : MI l yX11_periodOf cX11_periodOf 2 (some .int) { frames := 3, cells := 0, slots := 0, locals := 66 } [.ref (m 0), .int v] G (mdW G m M) (fun r (u : CT) => ((inr v fc) ∧ M 0 (44 + 5 * cl v) = r ∧ (us M 8 2 0) = u) ∨ ((¬ inr v fc) ∧ 0 = r ∧ (us M 8 2 1) = u)) (fun u => mdW G m u) := by
  refine jm_i (own := RX11) (by decide) rfl (Nat.le_of_ble_eq_true rfl) (fun x hl hC hR hN => ?_)
  subst hl
  refine J_aload_n hC dX11_periodOf_0 0 rfl rfl ?_
  refine J_iload_n hC dX11_periodOf_1 1 rfl rfl ?_
  refine J_callVi hC dX11_periodOf_2 wl_X11_287 yi_X11_noFair (c_X11_noFair _ G m M fc v (hfc) (by omega)) rfl rfl 0 11 rfl rfl ⟨Nat.le_of_ble_eq_true rfl, Nat.le_of_ble_eq_true rfl⟩ (Nat.le_of_ble_eq_true rfl) (Nat.le_of_ble_eq_true rfl) (Nat.le_of_ble_eq_true rfl) (fun r u h_2 => ?_)
  rcases h_2 with ⟨c_2, rfl, rfl⟩ | ⟨c_2, rfl, rfl⟩
  · refine J_if_eq (tgt := 10) hC dX11_periodOf_5 (by decide) (fun _ => ?_) (fun c => absurd (by decide) c)
    obtain ⟨ev, hv⟩ := inr_eq c_2 (by omega)
    refine J_lvq (lv' := [(0, .ref (m 0)), (1, .int (nI (cl v)))]) (by rw [← ev]; first | done | rfl) ?_
    refine J_aload_n hC dX11_periodOf_10 0 rfl rfl ?_
    refine J_get (v := .ref (m 1)) hC wu_X11 rfl dX11_periodOf_11 0 0 (by decide) wf_X11_7 rfl rfl ?_
    refine J_iload_n hC dX11_periodOf_14 1 rfl rfl ?_
    refine J_callSi hC dX11_periodOf_15 wl_X11_98 wi_X11 yi_X11_ofFair (c_X11_ofFair _ G (mdW G m (us M 8 2 0)) (cl v)) rfl rfl ⟨Nat.le_of_ble_eq_true rfl, Nat.le_of_ble_eq_true rfl⟩ (Nat.le_of_ble_eq_true rfl) (Nat.le_of_ble_eq_true rfl) (Nat.le_of_ble_eq_true rfl) (fun r u h_15 => ?_)
    subst h_15
    refine J_iconst (v := 2) hC dX11_periodOf_18 rfl ?_
    refine J_iadd (v := nI (44 + 5 * cl v)) hC dX11_periodOf_19 ((nI_add (42 + 5 * (cl v)) 2).trans (congrArg nI (by omega))) ?_
    refine J_iald (i := 44 + 5 * cl v) (v := M 0 (44 + 5 * cl v)) hC dX11_periodOf_20 1 rfl (by omega) (by decide) rfl ?_
    refine J_iret hC hR dX11_periodOf_21 rfl (us M 8 2 0) ?_ ?_ (by decide) (by decide)
    · exact Or.inl ⟨c_2, rfl, rfl⟩
    · rfl
  · refine J_if_eq (tgt := 10) hC dX11_periodOf_5 (by decide) (fun c => absurd c (by decide)) (fun _ => ?_)
    refine J_iconst (v := 0) hC dX11_periodOf_8 rfl ?_
    refine J_iret hC hR dX11_periodOf_9 rfl (us M 8 2 1) ?_ ?_ (by decide) (by decide)
    · exact Or.inr (⟨c_2, rfl, rfl⟩)
    · rfl

set_option maxRecDepth 100000 in
set_option maxHeartbeats 4000000 in
theorem c_X11_stockOf (l : Launch) (G : gT) (m : Nat → Nat) (M : CT) (fc : Nat) (v : Int32) (hfc : M 0 7 = nI fc) (bfc : fc ≤ 6) : MI l yX11_stockOf cX11_stockOf 2 (some .int) { frames := 3, cells := 0, slots := 0, locals := 66 } [.ref (m 0), .int v] G (mdW G m M) (fun r (u : CT) => ((inr v fc) ∧ M 0 (45 + 5 * cl v) = r ∧ (us M 8 2 0) = u) ∨ ((¬ inr v fc) ∧ 0 = r ∧ (us M 8 2 1) = u)) (fun u => mdW G m u) := by
  refine jm_i (own := RX11) (by decide) rfl (Nat.le_of_ble_eq_true rfl) (fun x hl hC hR hN => ?_)
  subst hl
  refine J_aload_n hC dX11_stockOf_0 0 rfl rfl ?_
  refine J_iload_n hC dX11_stockOf_1 1 rfl rfl ?_
  refine J_callVi hC dX11_stockOf_2 wl_X11_287 yi_X11_noFair (c_X11_noFair _ G m M fc v (hfc) (by omega)) rfl rfl 0 11 rfl rfl ⟨Nat.le_of_ble_eq_true rfl, Nat.le_of_ble_eq_true rfl⟩ (Nat.le_of_ble_eq_true rfl) (Nat.le_of_ble_eq_true rfl) (Nat.le_of_ble_eq_true rfl) (fun r u h_2 => ?_)
  rcases h_2 with ⟨c_2, rfl, rfl⟩ | ⟨c_2, rfl, rfl⟩
  · refine J_if_eq (tgt := 10) hC dX11_stockOf_5 (by decide) (fun _ => ?_) (fun c => absurd (by decide) c)
    obtain ⟨ev, hv⟩ := inr_eq c_2 (by omega)
    refine J_lvq (lv' := [(0, .ref (m 0)), (1, .int (nI (cl v)))]) (by rw [← ev]; first | done | rfl) ?_
    refine J_aload_n hC dX11_stockOf_10 0 rfl rfl ?_
    refine J_get (v := .ref (m 1)) hC wu_X11 rfl dX11_stockOf_11 0 0 (by decide) wf_X11_7 rfl rfl ?_
    refine J_iload_n hC dX11_stockOf_14 1 rfl rfl ?_
    refine J_callSi hC dX11_stockOf_15 wl_X11_98 wi_X11 yi_X11_ofFair (c_X11_ofFair _ G (mdW G m (us M 8 2 0)) (cl v)) rfl rfl ⟨Nat.le_of_ble_eq_true rfl, Nat.le_of_ble_eq_true rfl⟩ (Nat.le_of_ble_eq_true rfl) (Nat.le_of_ble_eq_true rfl) (Nat.le_of_ble_eq_true rfl) (fun r u h_15 => ?_)
    subst h_15
    refine J_iconst (v := 3) hC dX11_stockOf_18 rfl ?_
    refine J_iadd (v := nI (45 + 5 * cl v)) hC dX11_stockOf_19 ((nI_add (42 + 5 * (cl v)) 3).trans (congrArg nI (by omega))) ?_
    refine J_iald (i := 45 + 5 * cl v) (v := M 0 (45 + 5 * cl v)) hC dX11_stockOf_20 1 rfl (by omega) (by decide) rfl ?_
    refine J_iret hC hR dX11_stockOf_21 rfl (us M 8 2 0) ?_ ?_ (by decide) (by decide)
    · exact Or.inl ⟨c_2, rfl, rfl⟩
    · rfl
  · refine J_if_eq (tgt := 10) hC dX11_stockOf_5 (by decide) (fun c => absurd c (by decide)) (fun _ => ?_)
    refine J_iconst (v := 0) hC dX11_stockOf_8 rfl ?_
    refine J_iret hC hR dX11_stockOf_9 rfl (us M 8 2 1) ?_ ?_ (by decide) (by decide)
    · exact Or.inr (⟨c_2, rfl, rfl⟩)
    · rfl

set_option maxRecDepth 100000 in
set_option maxHeartbeats 4000000 in
theorem c_X11_priceOf (l : Launch) (G : gT) (m : Nat → Nat) (M : CT) (fc : Nat) (v : Int32) (hfc : M 0 7 = nI fc) (bfc : fc ≤ 6) : MI l yX11_priceOf cX11_priceOf 2 (some .int) { frames := 3, cells := 0, slots := 0, locals := 66 } [.ref (m 0), .int v] G (mdW G m M) (fun r (u : CT) => ((inr v fc) ∧ M 0 (46 + 5 * cl v) = r ∧ (us M 8 2 0) = u) ∨ ((¬ inr v fc) ∧ 0 = r ∧ (us M 8 2 1) = u)) (fun u => mdW G m u) := by
  refine jm_i (own := RX11) (by decide) rfl (Nat.le_of_ble_eq_true rfl) (fun x hl hC hR hN => ?_)
  subst hl
  refine J_aload_n hC dX11_priceOf_0 0 rfl rfl ?_
  refine J_iload_n hC dX11_priceOf_1 1 rfl rfl ?_
  refine J_callVi hC dX11_priceOf_2 wl_X11_287 yi_X11_noFair (c_X11_noFair _ G m M fc v (hfc) (by omega)) rfl rfl 0 11 rfl rfl ⟨Nat.le_of_ble_eq_true rfl, Nat.le_of_ble_eq_true rfl⟩ (Nat.le_of_ble_eq_true rfl) (Nat.le_of_ble_eq_true rfl) (Nat.le_of_ble_eq_true rfl) (fun r u h_2 => ?_)
  rcases h_2 with ⟨c_2, rfl, rfl⟩ | ⟨c_2, rfl, rfl⟩
  · refine J_if_eq (tgt := 10) hC dX11_priceOf_5 (by decide) (fun _ => ?_) (fun c => absurd (by decide) c)
    obtain ⟨ev, hv⟩ := inr_eq c_2 (by omega)
    refine J_lvq (lv' := [(0, .ref (m 0)), (1, .int (nI (cl v)))]) (by rw [← ev]; first | done | rfl) ?_
    refine J_aload_n hC dX11_priceOf_10 0 rfl rfl ?_
    refine J_get (v := .ref (m 1)) hC wu_X11 rfl dX11_priceOf_11 0 0 (by decide) wf_X11_7 rfl rfl ?_
    refine J_iload_n hC dX11_priceOf_14 1 rfl rfl ?_
    refine J_callSi hC dX11_priceOf_15 wl_X11_98 wi_X11 yi_X11_ofFair (c_X11_ofFair _ G (mdW G m (us M 8 2 0)) (cl v)) rfl rfl ⟨Nat.le_of_ble_eq_true rfl, Nat.le_of_ble_eq_true rfl⟩ (Nat.le_of_ble_eq_true rfl) (Nat.le_of_ble_eq_true rfl) (Nat.le_of_ble_eq_true rfl) (fun r u h_15 => ?_)
    subst h_15
    refine J_iconst (v := 4) hC dX11_priceOf_18 rfl ?_
    refine J_iadd (v := nI (46 + 5 * cl v)) hC dX11_priceOf_19 ((nI_add (42 + 5 * (cl v)) 4).trans (congrArg nI (by omega))) ?_
    refine J_iald (i := 46 + 5 * cl v) (v := M 0 (46 + 5 * cl v)) hC dX11_priceOf_20 1 rfl (by omega) (by decide) rfl ?_
    refine J_iret hC hR dX11_priceOf_21 rfl (us M 8 2 0) ?_ ?_ (by decide) (by decide)
    · exact Or.inl ⟨c_2, rfl, rfl⟩
    · rfl
  · refine J_if_eq (tgt := 10) hC dX11_priceOf_5 (by decide) (fun c => absurd c (by decide)) (fun _ => ?_)
    refine J_iconst (v := 0) hC dX11_priceOf_8 rfl ?_
    refine J_iret hC hR dX11_priceOf_9 rfl (us M 8 2 1) ?_ ?_ (by decide) (by decide)
    · exact Or.inr (⟨c_2, rfl, rfl⟩)
    · rfl

set_option maxRecDepth 100000 in
set_option maxHeartbeats 4000000 in
theorem c_X11_oddsOf (l : Launch) (G : gT) (m : Nat → Nat) (M : CT) (v : Int32) : MI l yX11_oddsOf cX11_oddsOf 2 (some .int) { frames := 3, cells := 0, slots := 0, locals := 66 } [.ref (m 0), .int v] G (mdW G m M) (fun r (u : CT) => ((inr v 3) ∧ M 0 (1 + cl v) = r ∧ (us M 8 2 0) = u) ∨ ((¬ inr v 3) ∧ 0 = r ∧ (us M 8 2 1) = u)) (fun u => mdW G m u) := by
  refine jm_i (own := RX11) (by decide) rfl (Nat.le_of_ble_eq_true rfl) (fun x hl hC hR hN => ?_)
  subst hl
  refine J_aload_n hC dX11_oddsOf_0 0 rfl rfl ?_
  refine J_iload_n hC dX11_oddsOf_1 1 rfl rfl ?_
  refine J_callVi hC dX11_oddsOf_2 wl_X11_290 yi_X11_noWeather (c_X11_noWeather _ G m M v) rfl rfl 0 11 rfl rfl ⟨Nat.le_of_ble_eq_true rfl, Nat.le_of_ble_eq_true rfl⟩ (Nat.le_of_ble_eq_true rfl) (Nat.le_of_ble_eq_true rfl) (Nat.le_of_ble_eq_true rfl) (fun r u h_2 => ?_)
  rcases h_2 with ⟨c_2, rfl, rfl⟩ | ⟨c_2, rfl, rfl⟩
  · refine J_if_eq (tgt := 10) hC dX11_oddsOf_5 (by decide) (fun _ => ?_) (fun c => absurd (by decide) c)
    obtain ⟨ev, hv⟩ := inr_eq c_2 (by omega)
    refine J_lvq (lv' := [(0, .ref (m 0)), (1, .int (nI (cl v)))]) (by rw [← ev]; first | done | rfl) ?_
    refine J_aload_n hC dX11_oddsOf_10 0 rfl rfl ?_
    refine J_get (v := .ref (m 1)) hC wu_X11 rfl dX11_oddsOf_11 0 0 (by decide) wf_X11_7 rfl rfl ?_
    refine J_iconst (v := 1) hC dX11_oddsOf_14 rfl ?_
    refine J_iload_n hC dX11_oddsOf_15 1 rfl rfl ?_
    refine J_iadd (v := nI (1 + cl v)) hC dX11_oddsOf_16 ((nI_add 1 (cl v)).trans (congrArg nI (by omega))) ?_
    refine J_iald (i := 1 + cl v) (v := M 0 (1 + cl v)) hC dX11_oddsOf_17 1 rfl (by omega) (by decide) rfl ?_
    refine J_iret hC hR dX11_oddsOf_18 rfl (us M 8 2 0) ?_ ?_ (by decide) (by decide)
    · exact Or.inl ⟨c_2, rfl, rfl⟩
    · rfl
  · refine J_if_eq (tgt := 10) hC dX11_oddsOf_5 (by decide) (fun c => absurd c (by decide)) (fun _ => ?_)
    refine J_iconst (v := 0) hC dX11_oddsOf_8 rfl ?_
    refine J_iret hC hR dX11_oddsOf_9 rfl (us M 8 2 1) ?_ ?_ (by decide) (by decide)
    · exact Or.inr (⟨c_2, rfl, rfl⟩)
    · rfl

set_option maxRecDepth 100000 in
set_option maxHeartbeats 4000000 in
theorem c_X11_drawnThisYear (l : Launch) (G : gT) (m : Nat → Nat) (M : CT) (v : Int32) : MI l yX11_drawnThisYear cX11_drawnThisYear 2 (some .int) { frames := 3, cells := 0, slots := 0, locals := 66 } [.ref (m 0), .int v] G (mdW G m M) (fun r (u : CT) => ((inr v 3) ∧ M 0 (17 + cl v) = r ∧ (us M 8 2 0) = u) ∨ ((¬ inr v 3) ∧ 0 = r ∧ (us M 8 2 1) = u)) (fun u => mdW G m u) := by
  refine jm_i (own := RX11) (by decide) rfl (Nat.le_of_ble_eq_true rfl) (fun x hl hC hR hN => ?_)
  subst hl
  refine J_aload_n hC dX11_drawnThisYear_0 0 rfl rfl ?_
  refine J_iload_n hC dX11_drawnThisYear_1 1 rfl rfl ?_
  refine J_callVi hC dX11_drawnThisYear_2 wl_X11_290 yi_X11_noWeather (c_X11_noWeather _ G m M v) rfl rfl 0 11 rfl rfl ⟨Nat.le_of_ble_eq_true rfl, Nat.le_of_ble_eq_true rfl⟩ (Nat.le_of_ble_eq_true rfl) (Nat.le_of_ble_eq_true rfl) (Nat.le_of_ble_eq_true rfl) (fun r u h_2 => ?_)
  rcases h_2 with ⟨c_2, rfl, rfl⟩ | ⟨c_2, rfl, rfl⟩
  · refine J_if_eq (tgt := 10) hC dX11_drawnThisYear_5 (by decide) (fun _ => ?_) (fun c => absurd (by decide) c)
    obtain ⟨ev, hv⟩ := inr_eq c_2 (by omega)
    refine J_lvq (lv' := [(0, .ref (m 0)), (1, .int (nI (cl v)))]) (by rw [← ev]; first | done | rfl) ?_
    refine J_aload_n hC dX11_drawnThisYear_10 0 rfl rfl ?_
    refine J_get (v := .ref (m 1)) hC wu_X11 rfl dX11_drawnThisYear_11 0 0 (by decide) wf_X11_7 rfl rfl ?_
    refine J_bipush (v := 17) hC dX11_drawnThisYear_14 (by decide +kernel) ?_
    refine J_iload_n hC dX11_drawnThisYear_16 1 rfl rfl ?_
    refine J_iadd (v := nI (17 + cl v)) hC dX11_drawnThisYear_17 ((nI_add 17 (cl v)).trans (congrArg nI (by omega))) ?_
    refine J_iald (i := 17 + cl v) (v := M 0 (17 + cl v)) hC dX11_drawnThisYear_18 1 rfl (by omega) (by decide) rfl ?_
    refine J_iret hC hR dX11_drawnThisYear_19 rfl (us M 8 2 0) ?_ ?_ (by decide) (by decide)
    · exact Or.inl ⟨c_2, rfl, rfl⟩
    · rfl
  · refine J_if_eq (tgt := 10) hC dX11_drawnThisYear_5 (by decide) (fun c => absurd c (by decide)) (fun _ => ?_)
    refine J_iconst (v := 0) hC dX11_drawnThisYear_8 rfl ?_
    refine J_iret hC hR dX11_drawnThisYear_9 rfl (us M 8 2 1) ?_ ?_ (by decide) (by decide)
    · exact Or.inr (⟨c_2, rfl, rfl⟩)
    · rfl

set_option maxRecDepth 100000 in
set_option maxHeartbeats 4000000 in
theorem c_X11_told (l : Launch) (G : gT) (m : Nat → Nat) (M : CT) (k : Nat) (hk : k < 30) : MI l yX11_told cX11_told 2 (some .int) { frames := 1, cells := 0, slots := 0, locals := 20 } [.ref (m 0), .int (nI k)] G (mdW G m M) (fun r (_ : Unit) => r = 10 * M 0 (73 + 5 * k) + M 0 (72 + 5 * k)) (fun _ => mdW G m M) := by
  refine jm_i (own := RX11) (by decide) rfl (Nat.le_of_ble_eq_true rfl) (fun x hl hC hR hN => ?_)
  subst hl
  refine J_bipush (v := 10) hC dX11_told_0 (by decide +kernel) ?_
  refine J_aload_n hC dX11_told_2 0 rfl rfl ?_
  refine J_get (v := .ref (m 1)) hC wu_X11 rfl dX11_told_3 0 0 (by decide) wf_X11_7 rfl rfl ?_
  refine J_iload_n hC dX11_told_6 1 rfl rfl ?_
  refine J_callSi hC dX11_told_7 wl_X11_69 wi_X11 yi_X11_ofForecast (c_X11_ofForecast _ G (mdW G m M) k) rfl rfl ⟨Nat.le_of_ble_eq_true rfl, Nat.le_of_ble_eq_true rfl⟩ (Nat.le_of_ble_eq_true rfl) (Nat.le_of_ble_eq_true rfl) (Nat.le_of_ble_eq_true rfl) (fun r u h_7 => ?_)
  subst h_7
  refine J_iconst (v := 1) hC dX11_told_10 rfl ?_
  refine J_iadd (v := nI (73 + 5 * k)) hC dX11_told_11 ((nI_add (72 + 5 * k) 1).trans (congrArg nI (by omega))) ?_
  refine J_iald (i := 73 + 5 * k) (v := M 0 (73 + 5 * k)) hC dX11_told_12 1 rfl (by omega) (by decide) rfl ?_
  refine J_imul (v := 10 * (M 0 (73 + 5 * k))) hC dX11_told_13 rfl ?_
  refine J_aload_n hC dX11_told_14 0 rfl rfl ?_
  refine J_get (v := .ref (m 1)) hC wu_X11 rfl dX11_told_15 0 0 (by decide) wf_X11_7 rfl rfl ?_
  refine J_iload_n hC dX11_told_18 1 rfl rfl ?_
  refine J_callSi hC dX11_told_19 wl_X11_69 wi_X11 yi_X11_ofForecast (c_X11_ofForecast _ G (mdW G m M) k) rfl rfl ⟨Nat.le_of_ble_eq_true rfl, Nat.le_of_ble_eq_true rfl⟩ (Nat.le_of_ble_eq_true rfl) (Nat.le_of_ble_eq_true rfl) (Nat.le_of_ble_eq_true rfl) (fun r u h_19 => ?_)
  subst h_19
  refine J_iconst (v := 0) hC dX11_told_22 rfl ?_
  refine J_iadd (v := nI (72 + 5 * k)) hC dX11_told_23 (Int32.add_zero _) ?_
  refine J_iald (i := 72 + 5 * k) (v := M 0 (72 + 5 * k)) hC dX11_told_24 1 rfl (by omega) (by decide) rfl ?_
  refine J_iadd (v := (10 * (M 0 (73 + 5 * k))) + (M 0 (72 + 5 * k))) hC dX11_told_25 rfl ?_
  refine J_iret hC hR dX11_told_26 rfl () ?_ ?_ (by decide) (by decide)
  · rfl
  · rfl

set_option maxRecDepth 100000 in
set_option maxHeartbeats 4000000 in
theorem c_X11_forecastAt (l : Launch) (G : gT) (m : Nat → Nat) (M : CT) (bc : Nat) (v : Int32) (hbc : M 0 8 = nI bc) (bbc : bc ≤ 30) : MI l yX11_forecastAt cX11_forecastAt 2 (some .int) { frames := 2, cells := 0, slots := 0, locals := 45 } [.ref (m 0), .int v] G (mdW G m M) (fun r (u : CT) => ((inr v bc) ∧ 10 * M 0 (73 + 5 * cl v) + M 0 (72 + 5 * cl v) = r ∧ (us M 8 2 0) = u) ∨ ((¬ inr v bc) ∧ 0 = r ∧ (us M 8 2 1) = u)) (fun u => mdW G m u) := by
  refine jm_i (own := RX11) (by decide) rfl (Nat.le_of_ble_eq_true rfl) (fun x hl hC hR hN => ?_)
  subst hl
  refine J_aload_n hC dX11_forecastAt_0 0 rfl rfl ?_
  refine J_iload_n hC dX11_forecastAt_1 1 rfl rfl ?_
  refine J_iconst (v := 0) hC dX11_forecastAt_2 rfl ?_
  refine J_aload_n hC dX11_forecastAt_3 0 rfl rfl ?_
  refine J_get (v := .ref (m 1)) hC wu_X11 rfl dX11_forecastAt_4 0 0 (by decide) wf_X11_7 rfl rfl ?_
  refine J_bipush (v := 8) hC dX11_forecastAt_7 (by decide +kernel) ?_
  refine J_iald (i := 8) (v := M 0 8) hC dX11_forecastAt_9 1 rfl (by omega) (by decide) rfl ?_
  refine J_topi hbc ?_
  refine J_iconst (v := 1) hC dX11_forecastAt_10 rfl ?_
  refine J_isub (v := (nI bc) - 1) hC dX11_forecastAt_11 rfl ?_
  refine J_callVi hC dX11_forecastAt_12 wl_X11_149 yi_X11_noNumber (c_X11_noNumber _ G m M v 0 ((nI bc) - 1)) rfl rfl 0 11 rfl rfl ⟨Nat.le_of_ble_eq_true rfl, Nat.le_of_ble_eq_true rfl⟩ (Nat.le_of_ble_eq_true rfl) (Nat.le_of_ble_eq_true rfl) (Nat.le_of_ble_eq_true rfl) (fun r u h_12 => ?_)
  rcases h_12 with ⟨c_12, rfl, rfl⟩ | ⟨c_12, rfl, rfl⟩
  · refine J_if_eq (tgt := 20) hC dX11_forecastAt_15 (by decide) (fun _ => ?_) (fun c => absurd (by decide) c)
    obtain ⟨ev, hv⟩ := inr_eq ((inr_m1 (n := bc) (by omega)).mp c_12) (by omega)
    refine J_lvq (lv' := [(0, .ref (m 0)), (1, .int (nI (cl v)))]) (by rw [← ev]; first | done | rfl) ?_
    refine J_aload_n hC dX11_forecastAt_20 0 rfl rfl ?_
    refine J_iload_n hC dX11_forecastAt_21 1 rfl rfl ?_
    refine J_callVi hC dX11_forecastAt_22 wl_X11_297 yi_X11_told (c_X11_told _ G m (us M 8 2 0) (cl v) (by omega)) rfl rfl 0 11 rfl rfl ⟨Nat.le_of_ble_eq_true rfl, Nat.le_of_ble_eq_true rfl⟩ (Nat.le_of_ble_eq_true rfl) (Nat.le_of_ble_eq_true rfl) (Nat.le_of_ble_eq_true rfl) (fun r u h_22 => ?_)
    subst h_22
    refine J_iret hC hR dX11_forecastAt_25 rfl (us M 8 2 0) ?_ ?_ (by decide) (by decide)
    · exact Or.inl ⟨(inr_m1 (n := bc) (by omega)).mp c_12, rfl, rfl⟩
    · rfl
  · refine J_if_eq (tgt := 20) hC dX11_forecastAt_15 (by decide) (fun c => absurd c (by decide)) (fun _ => ?_)
    refine J_iconst (v := 0) hC dX11_forecastAt_18 rfl ?_
    refine J_iret hC hR dX11_forecastAt_19 rfl (us M 8 2 1) ?_ ?_ (by decide) (by decide)
    · exact Or.inr (⟨mt (inr_m1 (n := bc) (by omega)).mpr c_12, rfl, rfl⟩)
    · rfl

set_option maxRecDepth 100000 in
set_option maxHeartbeats 4000000 in
theorem c_X11_regretAt (l : Launch) (G : gT) (m : Nat → Nat) (M : CT) (mc : Nat) (v : Int32) (hmc : M 0 9 = nI mc) (bmc : mc ≤ 10) : MI l yX11_regretAt cX11_regretAt 2 (some .int) { frames := 2, cells := 0, slots := 0, locals := 45 } [.ref (m 0), .int v] G (mdW G m M) (fun r (u : CT) => ((inr v mc) ∧ 10 * M 0 (222 + 2 * cl v) + M 0 (223 + 2 * cl v) = r ∧ (us M 8 2 0) = u) ∨ ((¬ inr v mc) ∧ 0 = r ∧ (us M 8 2 1) = u)) (fun u => mdW G m u) := by
  refine jm_i (own := RX11) (by decide) rfl (Nat.le_of_ble_eq_true rfl) (fun x hl hC hR hN => ?_)
  subst hl
  refine J_aload_n hC dX11_regretAt_0 0 rfl rfl ?_
  refine J_iload_n hC dX11_regretAt_1 1 rfl rfl ?_
  refine J_iconst (v := 0) hC dX11_regretAt_2 rfl ?_
  refine J_aload_n hC dX11_regretAt_3 0 rfl rfl ?_
  refine J_get (v := .ref (m 1)) hC wu_X11 rfl dX11_regretAt_4 0 0 (by decide) wf_X11_7 rfl rfl ?_
  refine J_bipush (v := 9) hC dX11_regretAt_7 (by decide +kernel) ?_
  refine J_iald (i := 9) (v := M 0 9) hC dX11_regretAt_9 1 rfl (by omega) (by decide) rfl ?_
  refine J_topi hmc ?_
  refine J_iconst (v := 1) hC dX11_regretAt_10 rfl ?_
  refine J_isub (v := (nI mc) - 1) hC dX11_regretAt_11 rfl ?_
  refine J_callVi hC dX11_regretAt_12 wl_X11_149 yi_X11_noNumber (c_X11_noNumber _ G m M v 0 ((nI mc) - 1)) rfl rfl 0 11 rfl rfl ⟨Nat.le_of_ble_eq_true rfl, Nat.le_of_ble_eq_true rfl⟩ (Nat.le_of_ble_eq_true rfl) (Nat.le_of_ble_eq_true rfl) (Nat.le_of_ble_eq_true rfl) (fun r u h_12 => ?_)
  rcases h_12 with ⟨c_12, rfl, rfl⟩ | ⟨c_12, rfl, rfl⟩
  · refine J_if_eq (tgt := 20) hC dX11_regretAt_15 (by decide) (fun _ => ?_) (fun c => absurd (by decide) c)
    obtain ⟨ev, hv⟩ := inr_eq ((inr_m1 (n := mc) (by omega)).mp c_12) (by omega)
    refine J_lvq (lv' := [(0, .ref (m 0)), (1, .int (nI (cl v)))]) (by rw [← ev]; first | done | rfl) ?_
    refine J_bipush (v := 10) hC dX11_regretAt_20 (by decide +kernel) ?_
    refine J_aload_n hC dX11_regretAt_22 0 rfl rfl ?_
    refine J_get (v := .ref (m 1)) hC wu_X11 rfl dX11_regretAt_23 0 0 (by decide) wf_X11_7 rfl rfl ?_
    refine J_iload_n hC dX11_regretAt_26 1 rfl rfl ?_
    refine J_callSi hC dX11_regretAt_27 wl_X11_112 wi_X11 yi_X11_ofRegret (c_X11_ofRegret _ G (mdW G m (us M 8 2 0)) (cl v)) rfl rfl ⟨Nat.le_of_ble_eq_true rfl, Nat.le_of_ble_eq_true rfl⟩ (Nat.le_of_ble_eq_true rfl) (Nat.le_of_ble_eq_true rfl) (Nat.le_of_ble_eq_true rfl) (fun r u h_27 => ?_)
    subst h_27
    refine J_iconst (v := 0) hC dX11_regretAt_30 rfl ?_
    refine J_iadd (v := nI (222 + 2 * (cl v))) hC dX11_regretAt_31 (Int32.add_zero _) ?_
    refine J_iald (i := 222 + 2 * (cl v)) (v := M 0 (222 + 2 * (cl v))) hC dX11_regretAt_32 1 rfl (by omega) (by decide) rfl ?_
    refine J_imul (v := 10 * (M 0 (222 + 2 * (cl v)))) hC dX11_regretAt_33 rfl ?_
    refine J_aload_n hC dX11_regretAt_34 0 rfl rfl ?_
    refine J_get (v := .ref (m 1)) hC wu_X11 rfl dX11_regretAt_35 0 0 (by decide) wf_X11_7 rfl rfl ?_
    refine J_iload_n hC dX11_regretAt_38 1 rfl rfl ?_
    refine J_callSi hC dX11_regretAt_39 wl_X11_112 wi_X11 yi_X11_ofRegret (c_X11_ofRegret _ G (mdW G m (us M 8 2 0)) (cl v)) rfl rfl ⟨Nat.le_of_ble_eq_true rfl, Nat.le_of_ble_eq_true rfl⟩ (Nat.le_of_ble_eq_true rfl) (Nat.le_of_ble_eq_true rfl) (Nat.le_of_ble_eq_true rfl) (fun r u h_39 => ?_)
    subst h_39
    refine J_iconst (v := 1) hC dX11_regretAt_42 rfl ?_
    refine J_iadd (v := nI (223 + 2 * cl v)) hC dX11_regretAt_43 ((nI_add (222 + 2 * (cl v)) 1).trans (congrArg nI (by omega))) ?_
    refine J_iald (i := 223 + 2 * cl v) (v := M 0 (223 + 2 * cl v)) hC dX11_regretAt_44 1 rfl (by omega) (by decide) rfl ?_
    refine J_iadd (v := (10 * (M 0 (222 + 2 * (cl v)))) + (M 0 (223 + 2 * cl v))) hC dX11_regretAt_45 rfl ?_
    refine J_iret hC hR dX11_regretAt_46 rfl (us M 8 2 0) ?_ ?_ (by decide) (by decide)
    · exact Or.inl ⟨(inr_m1 (n := mc) (by omega)).mp c_12, rfl, rfl⟩
    · rfl
  · refine J_if_eq (tgt := 20) hC dX11_regretAt_15 (by decide) (fun c => absurd c (by decide)) (fun _ => ?_)
    refine J_iconst (v := 0) hC dX11_regretAt_18 rfl ?_
    refine J_iret hC hR dX11_regretAt_19 rfl (us M 8 2 1) ?_ ?_ (by decide) (by decide)
    · exact Or.inr (⟨mt (inr_m1 (n := mc) (by omega)).mpr c_12, rfl, rfl⟩)
    · rfl

set_option maxRecDepth 100000 in
set_option maxHeartbeats 4000000 in
theorem c_X11_outputByte (l : Launch) (G : gT) (m : Nat → Nat) (M : CT) (ol : Nat) (v : Int32) (hol : M 8 11 = nI ol) (bol : ol ≤ 80) : MI l yX11_outputByte cX11_outputByte 2 (some .int) { frames := 2, cells := 0, slots := 0, locals := 45 } [.ref (m 0), .int v] G (mdW G m M) (fun r (u : CT) => ((inr v ol) ∧ M 7 (cl v) = r ∧ (us M 8 2 0) = u) ∨ ((¬ inr v ol) ∧ 0 = r ∧ (us M 8 2 1) = u)) (fun u => mdW G m u) := by
  refine jm_i (own := RX11) (by decide) rfl (Nat.le_of_ble_eq_true rfl) (fun x hl hC hR hN => ?_)
  subst hl
  refine J_aload_n hC dX11_outputByte_0 0 rfl rfl ?_
  refine J_iload_n hC dX11_outputByte_1 1 rfl rfl ?_
  refine J_iconst (v := 0) hC dX11_outputByte_2 rfl ?_
  refine J_aload_n hC dX11_outputByte_3 0 rfl rfl ?_
  refine J_get (v := .int (M 8 11)) hC wu_X11 rfl dX11_outputByte_4 0 19 (by decide) wf_X11_309 rfl rfl ?_
  refine J_topi hol ?_
  refine J_iconst (v := 1) hC dX11_outputByte_7 rfl ?_
  refine J_isub (v := (nI ol) - 1) hC dX11_outputByte_8 rfl ?_
  refine J_callVi hC dX11_outputByte_9 wl_X11_149 yi_X11_noNumber (c_X11_noNumber _ G m M v 0 ((nI ol) - 1)) rfl rfl 0 11 rfl rfl ⟨Nat.le_of_ble_eq_true rfl, Nat.le_of_ble_eq_true rfl⟩ (Nat.le_of_ble_eq_true rfl) (Nat.le_of_ble_eq_true rfl) (Nat.le_of_ble_eq_true rfl) (fun r u h_9 => ?_)
  rcases h_9 with ⟨c_9, rfl, rfl⟩ | ⟨c_9, rfl, rfl⟩
  · refine J_if_eq (tgt := 17) hC dX11_outputByte_12 (by decide) (fun _ => ?_) (fun c => absurd (by decide) c)
    obtain ⟨ev, hv⟩ := inr_eq ((inr_m1 (n := ol) (by omega)).mp c_9) (by omega)
    refine J_lvq (lv' := [(0, .ref (m 0)), (1, .int (nI (cl v)))]) (by rw [← ev]; first | done | rfl) ?_
    refine J_aload_n hC dX11_outputByte_17 0 rfl rfl ?_
    refine J_get (v := .ref (m 8)) hC wu_X11 rfl dX11_outputByte_18 0 18 (by decide) wf_X11_36 rfl rfl ?_
    refine J_iload_n hC dX11_outputByte_21 1 rfl rfl ?_
    refine J_bald (i := cl v) (v := M 7 (cl v)) hC dX11_outputByte_22 8 rfl (by omega) (by decide) rfl ?_
    refine J_iret hC hR dX11_outputByte_23 rfl (us M 8 2 0) ?_ ?_ (by decide) (by decide)
    · exact Or.inl ⟨(inr_m1 (n := ol) (by omega)).mp c_9, rfl, rfl⟩
    · rfl
  · refine J_if_eq (tgt := 17) hC dX11_outputByte_12 (by decide) (fun c => absurd c (by decide)) (fun _ => ?_)
    refine J_iconst (v := 0) hC dX11_outputByte_15 rfl ?_
    refine J_iret hC hR dX11_outputByte_16 rfl (us M 8 2 1) ?_ ?_ (by decide) (by decide)
    · exact Or.inr (⟨mt (inr_m1 (n := ol) (by omega)).mpr c_9, rfl, rfl⟩)
    · rfl

set_option maxRecDepth 100000 in
set_option maxHeartbeats 4000000 in
theorem c_X11_truncateInput (l : Launch) (G : gT) (m : Nat → Nat) (M : CT) (il : Nat) (v : Int32) (hil : M 8 3 = nI il) (bil : il ≤ 600) : MI l yX11_truncateInput cX11_truncateInput 2 (some .int) { frames := 2, cells := 0, slots := 0, locals := 45 } [.ref (m 0), .int v] G (mdW G m M) (fun r (u : CT) => ((inr v (il + 1)) ∧ v = r ∧ (us (us M 8 2 0) 8 3 v) = u) ∨ ((¬ inr v (il + 1)) ∧ 0 = r ∧ (us M 8 2 1) = u)) (fun u => mdW G m u) := by
  refine jm_i (own := RX11) (by decide) rfl (Nat.le_of_ble_eq_true rfl) (fun x hl hC hR hN => ?_)
  subst hl
  refine J_aload_n hC dX11_truncateInput_0 0 rfl rfl ?_
  refine J_iload_n hC dX11_truncateInput_1 1 rfl rfl ?_
  refine J_iconst (v := 0) hC dX11_truncateInput_2 rfl ?_
  refine J_aload_n hC dX11_truncateInput_3 0 rfl rfl ?_
  refine J_get (v := .int (M 8 3)) hC wu_X11 rfl dX11_truncateInput_4 0 10 (by decide) wf_X11_49 rfl rfl ?_
  refine J_topi hil ?_
  refine J_callVi hC dX11_truncateInput_7 wl_X11_149 yi_X11_noNumber (c_X11_noNumber _ G m M v 0 (nI il)) rfl rfl 0 11 rfl rfl ⟨Nat.le_of_ble_eq_true rfl, Nat.le_of_ble_eq_true rfl⟩ (Nat.le_of_ble_eq_true rfl) (Nat.le_of_ble_eq_true rfl) (Nat.le_of_ble_eq_true rfl) (fun r u h_7 => ?_)
  rcases h_7 with ⟨c_7, rfl, rfl⟩ | ⟨c_7, rfl, rfl⟩
  · refine J_if_eq (tgt := 15) hC dX11_truncateInput_10 (by decide) (fun _ => ?_) (fun c => absurd (by decide) c)
    refine J_aload_n hC dX11_truncateInput_15 0 rfl rfl ?_
    refine J_iload_n hC dX11_truncateInput_16 1 rfl rfl ?_
    refine J_put (ws' := mdW G m (us (us M 8 2 0) 8 3 v)) hC wu_X11 rfl tyX11_ok nmX11 dX11_truncateInput_17 0 10 (by decide) wf_X11_49 rfl rfl (Nat.le_of_ble_eq_true rfl) rfl rfl rfl ?_
    refine J_iload_n hC dX11_truncateInput_20 1 rfl rfl ?_
    refine J_iret hC hR dX11_truncateInput_21 rfl (us (us M 8 2 0) 8 3 v) ?_ ?_ (by decide) (by decide)
    · exact Or.inl ⟨(inr_le (by omega)).mp c_7, rfl, rfl⟩
    · rfl
  · refine J_if_eq (tgt := 15) hC dX11_truncateInput_10 (by decide) (fun c => absurd c (by decide)) (fun _ => ?_)
    refine J_iconst (v := 0) hC dX11_truncateInput_13 rfl ?_
    refine J_iret hC hR dX11_truncateInput_14 rfl (us M 8 2 1) ?_ ?_ (by decide) (by decide)
    · exact Or.inr (⟨mt (inr_le (by omega)).mpr c_7, rfl, rfl⟩)
    · rfl

set_option maxRecDepth 100000 in
set_option maxHeartbeats 4000000 in
theorem c_X11_forecastsFor (l : Launch) (G : gT) (m : Nat → Nat) (M : CT) (vc : Nat) (bc : Nat) (v : Int32) (hvc : M 0 6 = nI vc) (bvc : vc ≤ 6) (hbc : M 0 8 = nI bc) (bbc : bc ≤ 30) : MI l yX11_forecastsFor cX11_forecastsFor 4 (some .int) { frames := 3, cells := 0, slots := 0, locals := 66 } [.ref (m 0), .int v] G (mdW G m M) (fun r (u : CT) => ((inr v vc) ∧ fo (fun k s => if M 0 (72 + 5 * k) = v then s + 1 else s) 0 bc 0 = r ∧ (us M 8 2 0) = u) ∨ ((¬ inr v vc) ∧ 0 = r ∧ (us M 8 2 1) = u)) (fun u => mdW G m u) := by
  refine jm_i (own := RX11) (by decide) rfl (Nat.le_of_ble_eq_true rfl) (fun x hl hC hR hN => ?_)
  subst hl
  have key : ∀ fuel : Nat, (∀ (i : Nat) (acc : Int32), (i ≤ bc) → (inr v vc) → (fo (fun k s => if M 0 (72 + 5 * k) = v then s + 1 else s) 0 bc 0 = fo (fun k s => if M 0 (72 + 5 * k) = v then s + 1 else s) i (bc - i) acc) → bc - i < fuel → J x G (mdW G m (us M 8 2 0)) 0 0 [(0, .ref (m 0)), (1, .int v), (2, .int acc), (3, .int (nI i))] [] 14) := by
    intro fuel
    induction fuel with
    | zero => exact fun _ _ _ _ _ h => absurd h (Nat.not_lt_zero _)
    | succ fuel ih =>
      intro i acc hi hv hI hmu
      refine J_iload_n hC dX11_forecastsFor_14 3 rfl rfl ?_
      refine J_aload_n hC dX11_forecastsFor_15 0 rfl rfl ?_
      refine J_get (v := .ref (m 1)) hC wu_X11 rfl dX11_forecastsFor_16 0 0 (by decide) wf_X11_7 rfl rfl ?_
      refine J_bipush (v := 8) hC dX11_forecastsFor_19 (by decide +kernel) ?_
      refine J_iald (i := 8) (v := M 0 8) hC dX11_forecastsFor_21 1 rfl (by omega) (by decide) rfl ?_
      refine J_topi hbc ?_
      refine J_ic_geN (a := i) (b := bc) (tgt := 54) hC dX11_forecastsFor_22 (by decide) (by omega) (by omega) (fun (c_22 : bc ≤ i) => ?_) (fun (c_22 : i < bc) => ?_)
      · refine J_iload_n hC dX11_forecastsFor_54 2 rfl rfl ?_
        refine J_iret hC hR dX11_forecastsFor_55 rfl (us M 8 2 0) ?_ ?_ (by decide) (by decide)
        · exact Or.inl ⟨hv, hI.trans (fo_done c_22), rfl⟩
        · rfl
      · refine J_iload_n hC dX11_forecastsFor_25 2 rfl rfl ?_
        refine J_aload_n hC dX11_forecastsFor_26 0 rfl rfl ?_
        refine J_get (v := .ref (m 1)) hC wu_X11 rfl dX11_forecastsFor_27 0 0 (by decide) wf_X11_7 rfl rfl ?_
        refine J_iload_n hC dX11_forecastsFor_30 3 rfl rfl ?_
        refine J_callSi hC dX11_forecastsFor_31 wl_X11_69 wi_X11 yi_X11_ofForecast (c_X11_ofForecast _ G (mdW G m (us M 8 2 0)) i) rfl rfl ⟨Nat.le_of_ble_eq_true rfl, Nat.le_of_ble_eq_true rfl⟩ (Nat.le_of_ble_eq_true rfl) (Nat.le_of_ble_eq_true rfl) (Nat.le_of_ble_eq_true rfl) (fun r u h_31 => ?_)
        subst h_31
        refine J_iconst (v := 0) hC dX11_forecastsFor_34 rfl ?_
        refine J_iadd (v := nI (72 + 5 * i)) hC dX11_forecastsFor_35 (Int32.add_zero _) ?_
        refine J_iald (i := 72 + 5 * i) (v := M 0 (72 + 5 * i)) hC dX11_forecastsFor_36 1 rfl (by omega) (by decide) rfl ?_
        refine J_iload_n hC dX11_forecastsFor_37 1 rfl rfl ?_
        refine J_ic_ne (tgt := 45) hC dX11_forecastsFor_38 (by decide) (fun (c_38 : ¬ (M 0 (72 + 5 * i)) = v) => ?_) (fun (c_38 : (M 0 (72 + 5 * i)) = v) => ?_)
        · refine J_iconst (v := 0) hC dX11_forecastsFor_45 rfl ?_
          refine J_iadd (v := acc) hC dX11_forecastsFor_46 (Int32.add_zero _) ?_
          refine J_istore_n hC [(2, .int acc), (0, .ref (m 0)), (1, .int v), (3, .int (nI i))] dX11_forecastsFor_47 rfl (by decide) rfl ?_
          refine J_iinc hC [(3, .int (nI (i + 1))), (2, .int acc), (0, .ref (m 0)), (1, .int v)] dX11_forecastsFor_48 3 rfl (nI_inc _) (by decide) rfl ?_
          refine J_goto (tgt := 14) hC dX11_forecastsFor_51 (by decide) ?_
          refine J_lv (lv' := [(0, .ref (m 0)), (1, .int v), (2, .int acc), (3, .int (nI (i + 1)))]) [2, 3, 1, 0] rfl ?_
          exact ih (i + 1) acc (by omega) (hv) (hI.trans ((fo_step c_22).trans (congrArg _ (by rw [if_neg c_38])))) (by omega)
        · refine J_iconst (v := 1) hC dX11_forecastsFor_41 rfl ?_
          refine J_goto (tgt := 46) hC dX11_forecastsFor_42 (by decide) ?_
          refine J_iadd (v := acc + 1) hC dX11_forecastsFor_46 rfl ?_
          refine J_istore_n hC [(2, .int (acc + 1)), (0, .ref (m 0)), (1, .int v), (3, .int (nI i))] dX11_forecastsFor_47 rfl (by decide) rfl ?_
          refine J_iinc hC [(3, .int (nI (i + 1))), (2, .int (acc + 1)), (0, .ref (m 0)), (1, .int v)] dX11_forecastsFor_48 3 rfl (nI_inc _) (by decide) rfl ?_
          refine J_goto (tgt := 14) hC dX11_forecastsFor_51 (by decide) ?_
          refine J_lv (lv' := [(0, .ref (m 0)), (1, .int v), (2, .int (acc + 1)), (3, .int (nI (i + 1)))]) [2, 3, 1, 0] rfl ?_
          exact ih (i + 1) (acc + 1) (by omega) (hv) (hI.trans ((fo_step c_22).trans (congrArg _ (by rw [if_pos c_38])))) (by omega)
  refine J_aload_n hC dX11_forecastsFor_0 0 rfl rfl ?_
  refine J_iload_n hC dX11_forecastsFor_1 1 rfl rfl ?_
  refine J_callVi hC dX11_forecastsFor_2 wl_X11_284 yi_X11_noVillage (c_X11_noVillage _ G m M vc v (hvc) (by omega)) rfl rfl 0 11 rfl rfl ⟨Nat.le_of_ble_eq_true rfl, Nat.le_of_ble_eq_true rfl⟩ (Nat.le_of_ble_eq_true rfl) (Nat.le_of_ble_eq_true rfl) (Nat.le_of_ble_eq_true rfl) (fun r u h_2 => ?_)
  rcases h_2 with ⟨c_2, rfl, rfl⟩ | ⟨c_2, rfl, rfl⟩
  · refine J_if_eq (tgt := 10) hC dX11_forecastsFor_5 (by decide) (fun _ => ?_) (fun c => absurd (by decide) c)
    refine J_iconst (v := 0) hC dX11_forecastsFor_10 rfl ?_
    refine J_istore_n hC [(2, .int 0), (0, .ref (m 0)), (1, .int v)] dX11_forecastsFor_11 rfl (by decide) rfl ?_
    refine J_iconst (v := 0) hC dX11_forecastsFor_12 rfl ?_
    refine J_istore_n hC [(3, .int 0), (2, .int 0), (0, .ref (m 0)), (1, .int v)] dX11_forecastsFor_13 rfl (by decide) rfl ?_
    refine J_lv (lv' := [(0, .ref (m 0)), (1, .int v), (2, .int 0), (3, .int 0)]) [2, 3, 1, 0] rfl ?_
    exact (key _) 0 0 (by omega) (c_2) (rfl) (Nat.lt_succ_self _)
  · refine J_if_eq (tgt := 10) hC dX11_forecastsFor_5 (by decide) (fun c => absurd c (by decide)) (fun _ => ?_)
    refine J_iconst (v := 0) hC dX11_forecastsFor_8 rfl ?_
    refine J_iret hC hR dX11_forecastsFor_9 rfl (us M 8 2 1) ?_ ?_ (by decide) (by decide)
    · exact Or.inr (⟨c_2, rfl, rfl⟩)
    · rfl

set_option maxRecDepth 100000 in
set_option maxHeartbeats 4000000 in
theorem c_X11_hasForecast (l : Launch) (G : gT) (m : Nat → Nat) (M : CT) (vc : Nat) (bc : Nat) (v : Int32) (d : Int32) (hvc : M 0 6 = nI vc) (bvc : vc ≤ 6) (hbc : M 0 8 = nI bc) (bbc : bc ≤ 30) : MI l yX11_hasForecast cX11_hasForecast 3 (some .boolean) { frames := 3, cells := 0, slots := 0, locals := 66 } [.ref (m 0), .int v, .int d] G (mdW G m M) (fun r (u : CT) => ((inr v vc ∧ m_find (M 0) v d bc = -1) ∧ 0 = r ∧ (us M 8 2 0) = u) ∨ ((inr v vc ∧ ∃ k, k < bc ∧ m_find (M 0) v d bc = nI k) ∧ 1 = r ∧ (us M 8 2 0) = u) ∨ ((¬ inr v vc) ∧ 0 = r ∧ (us M 8 2 1) = u)) (fun u => mdW G m u) := by
  refine jm_i (own := RX11) (by decide) rfl (Nat.le_of_ble_eq_true rfl) (fun x hl hC hR hN => ?_)
  subst hl
  refine J_aload_n hC dX11_hasForecast_0 0 rfl rfl ?_
  refine J_iload_n hC dX11_hasForecast_1 1 rfl rfl ?_
  refine J_callVi hC dX11_hasForecast_2 wl_X11_284 yi_X11_noVillage (c_X11_noVillage _ G m M vc v (hvc) (by omega)) rfl rfl 0 11 rfl rfl ⟨Nat.le_of_ble_eq_true rfl, Nat.le_of_ble_eq_true rfl⟩ (Nat.le_of_ble_eq_true rfl) (Nat.le_of_ble_eq_true rfl) (Nat.le_of_ble_eq_true rfl) (fun r u h_2 => ?_)
  rcases h_2 with ⟨c_2, rfl, rfl⟩ | ⟨c_2, rfl, rfl⟩
  · refine J_if_eq (tgt := 10) hC dX11_hasForecast_5 (by decide) (fun _ => ?_) (fun c => absurd (by decide) c)
    refine J_aload_n hC dX11_hasForecast_10 0 rfl rfl ?_
    refine J_get (v := .ref (m 1)) hC wu_X11 rfl dX11_hasForecast_11 0 0 (by decide) wf_X11_7 rfl rfl ?_
    refine J_iload_n hC dX11_hasForecast_14 1 rfl rfl ?_
    refine J_iload_n hC dX11_hasForecast_15 2 rfl rfl ?_
    refine J_callSi hC dX11_hasForecast_16 wl_X11_73 wi_X11 yi_X11_find (mdl0_ir (c_X11_find _ G (m 1) (M 0) bc v d (hbc) (by omega))) rfl rfl ⟨Nat.le_of_ble_eq_true rfl, Nat.le_of_ble_eq_true rfl⟩ (Nat.le_of_ble_eq_true rfl) (Nat.le_of_ble_eq_true rfl) (Nat.le_of_ble_eq_true rfl) (fun r u h_16 => ?_)
    subst h_16
    rcases m_find_cases (M 0) v d bc with p_16 | ⟨k_16, hk_16, p_16, -, -⟩
    · refine J_topi p_16 ?_
      refine J_iconst (v := (-1)) hC dX11_hasForecast_19 rfl ?_
      refine J_ic_eq (tgt := 27) hC dX11_hasForecast_20 (by decide) (fun _ => ?_) (fun c => absurd (by decide) c)
      refine J_iconst (v := 0) hC dX11_hasForecast_27 rfl ?_
      refine J_iret hC hR dX11_hasForecast_28 rfl (us M 8 2 0) ?_ ?_ (by decide) (by decide)
      · exact Or.inl ⟨⟨c_2, p_16⟩, rfl, rfl⟩
      · rfl
    · refine J_topi p_16 ?_
      refine J_iconst (v := (-1)) hC dX11_hasForecast_19 rfl ?_
      refine J_ic_eq (tgt := 27) hC dX11_hasForecast_20 (by decide) (fun c => absurd c (nI_ne_m1 (by omega))) (fun _ => ?_)
      refine J_iconst (v := 1) hC dX11_hasForecast_23 rfl ?_
      refine J_goto (tgt := 28) hC dX11_hasForecast_24 (by decide) ?_
      refine J_iret hC hR dX11_hasForecast_28 rfl (us M 8 2 0) ?_ ?_ (by decide) (by decide)
      · exact Or.inr (Or.inl ⟨⟨c_2, k_16, hk_16, p_16⟩, rfl, rfl⟩)
      · rfl
  · refine J_if_eq (tgt := 10) hC dX11_hasForecast_5 (by decide) (fun c => absurd c (by decide)) (fun _ => ?_)
    refine J_iconst (v := 0) hC dX11_hasForecast_8 rfl ?_
    refine J_iret hC hR dX11_hasForecast_9 rfl (us M 8 2 1) ?_ ?_ (by decide) (by decide)
    · exact Or.inr (Or.inr (⟨c_2, rfl, rfl⟩))
    · rfl

set_option maxRecDepth 100000 in
set_option maxHeartbeats 4000000 in
theorem c_X11_noForecast (l : Launch) (G : gT) (m : Nat → Nat) (M : CT) (vc : Nat) (bc : Nat) (v : Int32) (d : Int32) (hvc : M 0 6 = nI vc) (bvc : vc ≤ 6) (hbc : M 0 8 = nI bc) (bbc : bc ≤ 30) : MI l yX11_noForecast cX11_noForecast 3 (some .boolean) { frames := 3, cells := 0, slots := 0, locals := 66 } [.ref (m 0), .int v, .int d] G (mdW G m M) (fun r (u : CT) => ((inr v vc ∧ ∃ k, k < bc ∧ m_find (M 0) v d bc = nI k) ∧ 0 = r ∧ (us M 8 2 0) = u) ∨ ((¬ inr v vc) ∧ 1 = r ∧ (us M 8 2 1) = u) ∨ ((inr v vc ∧ m_find (M 0) v d bc = -1) ∧ 1 = r ∧ (us M 8 2 2) = u)) (fun u => mdW G m u) := by
  refine jm_i (own := RX11) (by decide) rfl (Nat.le_of_ble_eq_true rfl) (fun x hl hC hR hN => ?_)
  subst hl
  refine J_aload_n hC dX11_noForecast_0 0 rfl rfl ?_
  refine J_iload_n hC dX11_noForecast_1 1 rfl rfl ?_
  refine J_callVi hC dX11_noForecast_2 wl_X11_284 yi_X11_noVillage (c_X11_noVillage _ G m M vc v (hvc) (by omega)) rfl rfl 0 11 rfl rfl ⟨Nat.le_of_ble_eq_true rfl, Nat.le_of_ble_eq_true rfl⟩ (Nat.le_of_ble_eq_true rfl) (Nat.le_of_ble_eq_true rfl) (Nat.le_of_ble_eq_true rfl) (fun r u h_2 => ?_)
  rcases h_2 with ⟨c_2, rfl, rfl⟩ | ⟨c_2, rfl, rfl⟩
  · refine J_if_ne (tgt := 34) hC dX11_noForecast_5 (by decide) (fun c => absurd (by decide) c) (fun _ => ?_)
    refine J_aload_n hC dX11_noForecast_8 0 rfl rfl ?_
    refine J_aload_n hC dX11_noForecast_9 0 rfl rfl ?_
    refine J_get (v := .ref (m 1)) hC wu_X11 rfl dX11_noForecast_10 0 0 (by decide) wf_X11_7 rfl rfl ?_
    refine J_iload_n hC dX11_noForecast_13 1 rfl rfl ?_
    refine J_iload_n hC dX11_noForecast_14 2 rfl rfl ?_
    refine J_callSi hC dX11_noForecast_15 wl_X11_73 wi_X11 yi_X11_find (mdl0_ir (c_X11_find _ G (m 1) (M 0) bc v d (hbc) (by omega))) rfl rfl ⟨Nat.le_of_ble_eq_true rfl, Nat.le_of_ble_eq_true rfl⟩ (Nat.le_of_ble_eq_true rfl) (Nat.le_of_ble_eq_true rfl) (Nat.le_of_ble_eq_true rfl) (fun r u h_15 => ?_)
    subst h_15
    rcases m_find_cases (M 0) v d bc with p_15 | ⟨k_15, hk_15, p_15, -, -⟩
    · refine J_topi p_15 ?_
      refine J_iconst (v := (-1)) hC dX11_noForecast_18 rfl ?_
      refine J_ic_ne (tgt := 26) hC dX11_noForecast_19 (by decide) (fun c => absurd (by decide) c) (fun _ => ?_)
      refine J_iconst (v := 1) hC dX11_noForecast_22 rfl ?_
      refine J_goto (tgt := 27) hC dX11_noForecast_23 (by decide) ?_
      refine J_iconst (v := 2) hC dX11_noForecast_27 rfl ?_
      refine J_callVi hC dX11_noForecast_28 wl_X11_141 yi_X11_refuses (c_X11_refuses_1 _ G m (us M 8 2 0) 2 (by first | assumption | rfl) (by decide)) rfl rfl 0 11 rfl rfl ⟨Nat.le_of_ble_eq_true rfl, Nat.le_of_ble_eq_true rfl⟩ (Nat.le_of_ble_eq_true rfl) (Nat.le_of_ble_eq_true rfl) (Nat.le_of_ble_eq_true rfl) (fun r u h_28 => ?_)
      obtain ⟨c_28, rfl, rfl⟩ := h_28
      rw [us_us]
      refine J_if_eq (tgt := 38) hC dX11_noForecast_31 (by decide) (fun c => absurd c (by decide)) (fun _ => ?_)
      refine J_iconst (v := 1) hC dX11_noForecast_34 rfl ?_
      refine J_goto (tgt := 39) hC dX11_noForecast_35 (by decide) ?_
      refine J_iret hC hR dX11_noForecast_39 rfl (us M 8 2 2) ?_ ?_ (by decide) (by decide)
      · exact Or.inr (Or.inr (⟨⟨c_2, p_15⟩, rfl, rfl⟩))
      · rfl
    · refine J_topi p_15 ?_
      refine J_iconst (v := (-1)) hC dX11_noForecast_18 rfl ?_
      refine J_ic_ne (tgt := 26) hC dX11_noForecast_19 (by decide) (fun _ => ?_) (fun c => absurd c (nI_ne_m1 (by omega)))
      refine J_iconst (v := 0) hC dX11_noForecast_26 rfl ?_
      refine J_iconst (v := 2) hC dX11_noForecast_27 rfl ?_
      refine J_callVi hC dX11_noForecast_28 wl_X11_141 yi_X11_refuses (c_X11_refuses_0 _ G m (us M 8 2 0) 2 (by first | assumption | rfl)) rfl rfl 0 11 rfl rfl ⟨Nat.le_of_ble_eq_true rfl, Nat.le_of_ble_eq_true rfl⟩ (Nat.le_of_ble_eq_true rfl) (Nat.le_of_ble_eq_true rfl) (Nat.le_of_ble_eq_true rfl) (fun r u h_28 => ?_)
      obtain ⟨c_28, rfl, rfl⟩ := h_28
      refine J_if_eq (tgt := 38) hC dX11_noForecast_31 (by decide) (fun _ => ?_) (fun c => absurd (by decide) c)
      refine J_iconst (v := 0) hC dX11_noForecast_38 rfl ?_
      refine J_iret hC hR dX11_noForecast_39 rfl (us M 8 2 0) ?_ ?_ (by decide) (by decide)
      · exact Or.inl ⟨⟨c_2, k_15, hk_15, p_15⟩, rfl, rfl⟩
      · rfl
  · refine J_if_ne (tgt := 34) hC dX11_noForecast_5 (by decide) (fun _ => ?_) (fun c => absurd c (by decide))
    refine J_iconst (v := 1) hC dX11_noForecast_34 rfl ?_
    refine J_goto (tgt := 39) hC dX11_noForecast_35 (by decide) ?_
    refine J_iret hC hR dX11_noForecast_39 rfl (us M 8 2 1) ?_ ?_ (by decide) (by decide)
    · exact Or.inr (Or.inl ⟨c_2, rfl, rfl⟩)
    · rfl

set_option maxRecDepth 100000 in
set_option maxHeartbeats 4000000 in
theorem c_X11_weatherOf (l : Launch) (G : gT) (m : Nat → Nat) (M : CT) (vc : Nat) (bc : Nat) (v : Int32) (d : Int32) (hvc : M 0 6 = nI vc) (bvc : vc ≤ 6) (hbc : M 0 8 = nI bc) (bbc : bc ≤ 30) : MI l yX11_weatherOf cX11_weatherOf 4 (some .int) { frames := 4, cells := 0, slots := 0, locals := 88 } [.ref (m 0), .int v, .int d] G (mdW G m M) (fun r (u : CT) => ((inr v vc ∧ ∃ k, k < bc ∧ m_find (M 0) v d bc = nI k) ∧ M 0 (74 + 5 * cl (m_find (M 0) v d bc)) = r ∧ (us M 8 2 0) = u) ∨ ((¬ inr v vc) ∧ 0 = r ∧ (us M 8 2 1) = u) ∨ ((inr v vc ∧ m_find (M 0) v d bc = -1) ∧ 0 = r ∧ (us M 8 2 2) = u)) (fun u => mdW G m u) := by
  refine jm_i (own := RX11) (by decide) rfl (Nat.le_of_ble_eq_true rfl) (fun x hl hC hR hN => ?_)
  subst hl
  refine J_aload_n hC dX11_weatherOf_0 0 rfl rfl ?_
  refine J_iload_n hC dX11_weatherOf_1 1 rfl rfl ?_
  refine J_iload_n hC dX11_weatherOf_2 2 rfl rfl ?_
  refine J_callVi hC dX11_weatherOf_3 wl_X11_293 yi_X11_noForecast (c_X11_noForecast _ G m M vc bc v d (hvc) (by omega) (hbc) (by omega)) rfl rfl 0 11 rfl rfl ⟨Nat.le_of_ble_eq_true rfl, Nat.le_of_ble_eq_true rfl⟩ (Nat.le_of_ble_eq_true rfl) (Nat.le_of_ble_eq_true rfl) (Nat.le_of_ble_eq_true rfl) (fun r u h_3 => ?_)
  rcases h_3 with ⟨c_3, rfl, rfl⟩ | ⟨c_3, rfl, rfl⟩ | ⟨c_3, rfl, rfl⟩
  · refine J_if_eq (tgt := 11) hC dX11_weatherOf_6 (by decide) (fun _ => ?_) (fun c => absurd (by decide) c)
    refine J_aload_n hC dX11_weatherOf_11 0 rfl rfl ?_
    refine J_get (v := .ref (m 1)) hC wu_X11 rfl dX11_weatherOf_12 0 0 (by decide) wf_X11_7 rfl rfl ?_
    refine J_iload_n hC dX11_weatherOf_15 1 rfl rfl ?_
    refine J_iload_n hC dX11_weatherOf_16 2 rfl rfl ?_
    refine J_callSi hC dX11_weatherOf_17 wl_X11_73 wi_X11 yi_X11_find (mdl0_ir (c_X11_find _ G (m 1) (M 0) bc v d (hbc) (by omega))) rfl rfl ⟨Nat.le_of_ble_eq_true rfl, Nat.le_of_ble_eq_true rfl⟩ (Nat.le_of_ble_eq_true rfl) (Nat.le_of_ble_eq_true rfl) (Nat.le_of_ble_eq_true rfl) (fun r u h_17 => ?_)
    subst h_17
    obtain ⟨hin, k, hk, ek⟩ := c_3
    refine J_topi ek ?_
    have ecl : cl (m_find (M 0) v d bc) = k := by rw [ek, cl, nI_clamp (by omega)]
    refine J_istore_n hC [(3, .int (nI k)), (0, .ref (m 0)), (1, .int v), (2, .int d)] dX11_weatherOf_20 rfl (by decide) rfl ?_
    refine J_aload_n hC dX11_weatherOf_21 1 rfl rfl ?_
    refine J_get (v := .ref (m 1)) hC wu_X11 rfl dX11_weatherOf_22 0 0 (by decide) wf_X11_7 rfl rfl ?_
    refine J_iload_n hC dX11_weatherOf_25 0 rfl rfl ?_
    refine J_callSi hC dX11_weatherOf_26 wl_X11_69 wi_X11 yi_X11_ofForecast (c_X11_ofForecast _ G (mdW G m (us M 8 2 0)) k) rfl rfl ⟨Nat.le_of_ble_eq_true rfl, Nat.le_of_ble_eq_true rfl⟩ (Nat.le_of_ble_eq_true rfl) (Nat.le_of_ble_eq_true rfl) (Nat.le_of_ble_eq_true rfl) (fun r u h_26 => ?_)
    subst h_26
    refine J_iconst (v := 2) hC dX11_weatherOf_29 rfl ?_
    refine J_iadd (v := nI (74 + 5 * k)) hC dX11_weatherOf_30 ((nI_add (72 + 5 * k) 2).trans (congrArg nI (by omega))) ?_
    refine J_iald (i := 74 + 5 * k) (v := M 0 (74 + 5 * k)) hC dX11_weatherOf_31 1 rfl (by omega) (by decide) rfl ?_
    refine J_iret hC hR dX11_weatherOf_32 rfl (us M 8 2 0) ?_ ?_ (by decide) (by decide)
    · exact Or.inl ⟨⟨hin, k, hk, ek⟩, by rw [ecl], rfl⟩
    · rfl
  · refine J_if_eq (tgt := 11) hC dX11_weatherOf_6 (by decide) (fun c => absurd c (by decide)) (fun _ => ?_)
    refine J_iconst (v := 0) hC dX11_weatherOf_9 rfl ?_
    refine J_iret hC hR dX11_weatherOf_10 rfl (us M 8 2 1) ?_ ?_ (by decide) (by decide)
    · exact Or.inr (Or.inl ⟨c_3, rfl, rfl⟩)
    · rfl
  · refine J_if_eq (tgt := 11) hC dX11_weatherOf_6 (by decide) (fun c => absurd c (by decide)) (fun _ => ?_)
    refine J_iconst (v := 0) hC dX11_weatherOf_9 rfl ?_
    refine J_iret hC hR dX11_weatherOf_10 rfl (us M 8 2 2) ?_ ?_ (by decide) (by decide)
    · exact Or.inr (Or.inr (⟨c_3, rfl, rfl⟩))
    · rfl

set_option maxRecDepth 100000 in
set_option maxHeartbeats 4000000 in
theorem c_X11_soldOf (l : Launch) (G : gT) (m : Nat → Nat) (M : CT) (vc : Nat) (bc : Nat) (v : Int32) (d : Int32) (hvc : M 0 6 = nI vc) (bvc : vc ≤ 6) (hbc : M 0 8 = nI bc) (bbc : bc ≤ 30) : MI l yX11_soldOf cX11_soldOf 4 (some .int) { frames := 4, cells := 0, slots := 0, locals := 88 } [.ref (m 0), .int v, .int d] G (mdW G m M) (fun r (u : CT) => ((inr v vc ∧ ∃ k, k < bc ∧ m_find (M 0) v d bc = nI k) ∧ M 0 (75 + 5 * cl (m_find (M 0) v d bc)) = r ∧ (us M 8 2 0) = u) ∨ ((¬ inr v vc) ∧ 0 = r ∧ (us M 8 2 1) = u) ∨ ((inr v vc ∧ m_find (M 0) v d bc = -1) ∧ 0 = r ∧ (us M 8 2 2) = u)) (fun u => mdW G m u) := by
  refine jm_i (own := RX11) (by decide) rfl (Nat.le_of_ble_eq_true rfl) (fun x hl hC hR hN => ?_)
  subst hl
  refine J_aload_n hC dX11_soldOf_0 0 rfl rfl ?_
  refine J_iload_n hC dX11_soldOf_1 1 rfl rfl ?_
  refine J_iload_n hC dX11_soldOf_2 2 rfl rfl ?_
  refine J_callVi hC dX11_soldOf_3 wl_X11_293 yi_X11_noForecast (c_X11_noForecast _ G m M vc bc v d (hvc) (by omega) (hbc) (by omega)) rfl rfl 0 11 rfl rfl ⟨Nat.le_of_ble_eq_true rfl, Nat.le_of_ble_eq_true rfl⟩ (Nat.le_of_ble_eq_true rfl) (Nat.le_of_ble_eq_true rfl) (Nat.le_of_ble_eq_true rfl) (fun r u h_3 => ?_)
  rcases h_3 with ⟨c_3, rfl, rfl⟩ | ⟨c_3, rfl, rfl⟩ | ⟨c_3, rfl, rfl⟩
  · refine J_if_eq (tgt := 11) hC dX11_soldOf_6 (by decide) (fun _ => ?_) (fun c => absurd (by decide) c)
    refine J_aload_n hC dX11_soldOf_11 0 rfl rfl ?_
    refine J_get (v := .ref (m 1)) hC wu_X11 rfl dX11_soldOf_12 0 0 (by decide) wf_X11_7 rfl rfl ?_
    refine J_iload_n hC dX11_soldOf_15 1 rfl rfl ?_
    refine J_iload_n hC dX11_soldOf_16 2 rfl rfl ?_
    refine J_callSi hC dX11_soldOf_17 wl_X11_73 wi_X11 yi_X11_find (mdl0_ir (c_X11_find _ G (m 1) (M 0) bc v d (hbc) (by omega))) rfl rfl ⟨Nat.le_of_ble_eq_true rfl, Nat.le_of_ble_eq_true rfl⟩ (Nat.le_of_ble_eq_true rfl) (Nat.le_of_ble_eq_true rfl) (Nat.le_of_ble_eq_true rfl) (fun r u h_17 => ?_)
    subst h_17
    obtain ⟨hin, k, hk, ek⟩ := c_3
    refine J_topi ek ?_
    have ecl : cl (m_find (M 0) v d bc) = k := by rw [ek, cl, nI_clamp (by omega)]
    refine J_istore_n hC [(3, .int (nI k)), (0, .ref (m 0)), (1, .int v), (2, .int d)] dX11_soldOf_20 rfl (by decide) rfl ?_
    refine J_aload_n hC dX11_soldOf_21 1 rfl rfl ?_
    refine J_get (v := .ref (m 1)) hC wu_X11 rfl dX11_soldOf_22 0 0 (by decide) wf_X11_7 rfl rfl ?_
    refine J_iload_n hC dX11_soldOf_25 0 rfl rfl ?_
    refine J_callSi hC dX11_soldOf_26 wl_X11_69 wi_X11 yi_X11_ofForecast (c_X11_ofForecast _ G (mdW G m (us M 8 2 0)) k) rfl rfl ⟨Nat.le_of_ble_eq_true rfl, Nat.le_of_ble_eq_true rfl⟩ (Nat.le_of_ble_eq_true rfl) (Nat.le_of_ble_eq_true rfl) (Nat.le_of_ble_eq_true rfl) (fun r u h_26 => ?_)
    subst h_26
    refine J_iconst (v := 3) hC dX11_soldOf_29 rfl ?_
    refine J_iadd (v := nI (75 + 5 * k)) hC dX11_soldOf_30 ((nI_add (72 + 5 * k) 3).trans (congrArg nI (by omega))) ?_
    refine J_iald (i := 75 + 5 * k) (v := M 0 (75 + 5 * k)) hC dX11_soldOf_31 1 rfl (by omega) (by decide) rfl ?_
    refine J_iret hC hR dX11_soldOf_32 rfl (us M 8 2 0) ?_ ?_ (by decide) (by decide)
    · exact Or.inl ⟨⟨hin, k, hk, ek⟩, by rw [ecl], rfl⟩
    · rfl
  · refine J_if_eq (tgt := 11) hC dX11_soldOf_6 (by decide) (fun c => absurd c (by decide)) (fun _ => ?_)
    refine J_iconst (v := 0) hC dX11_soldOf_9 rfl ?_
    refine J_iret hC hR dX11_soldOf_10 rfl (us M 8 2 1) ?_ ?_ (by decide) (by decide)
    · exact Or.inr (Or.inl ⟨c_3, rfl, rfl⟩)
    · rfl
  · refine J_if_eq (tgt := 11) hC dX11_soldOf_6 (by decide) (fun c => absurd c (by decide)) (fun _ => ?_)
    refine J_iconst (v := 0) hC dX11_soldOf_9 rfl ?_
    refine J_iret hC hR dX11_soldOf_10 rfl (us M 8 2 2) ?_ ?_ (by decide) (by decide)
    · exact Or.inr (Or.inr (⟨c_3, rfl, rfl⟩))
    · rfl

set_option maxRecDepth 100000 in
set_option maxHeartbeats 4000000 in
theorem c_X11_paidOf (l : Launch) (G : gT) (m : Nat → Nat) (M : CT) (vc : Nat) (bc : Nat) (v : Int32) (d : Int32) (hvc : M 0 6 = nI vc) (bvc : vc ≤ 6) (hbc : M 0 8 = nI bc) (bbc : bc ≤ 30) : MI l yX11_paidOf cX11_paidOf 4 (some .int) { frames := 4, cells := 0, slots := 0, locals := 88 } [.ref (m 0), .int v, .int d] G (mdW G m M) (fun r (u : CT) => ((inr v vc ∧ ∃ k, k < bc ∧ m_find (M 0) v d bc = nI k) ∧ M 0 (76 + 5 * cl (m_find (M 0) v d bc)) = r ∧ (us M 8 2 0) = u) ∨ ((¬ inr v vc) ∧ 0 = r ∧ (us M 8 2 1) = u) ∨ ((inr v vc ∧ m_find (M 0) v d bc = -1) ∧ 0 = r ∧ (us M 8 2 2) = u)) (fun u => mdW G m u) := by
  refine jm_i (own := RX11) (by decide) rfl (Nat.le_of_ble_eq_true rfl) (fun x hl hC hR hN => ?_)
  subst hl
  refine J_aload_n hC dX11_paidOf_0 0 rfl rfl ?_
  refine J_iload_n hC dX11_paidOf_1 1 rfl rfl ?_
  refine J_iload_n hC dX11_paidOf_2 2 rfl rfl ?_
  refine J_callVi hC dX11_paidOf_3 wl_X11_293 yi_X11_noForecast (c_X11_noForecast _ G m M vc bc v d (hvc) (by omega) (hbc) (by omega)) rfl rfl 0 11 rfl rfl ⟨Nat.le_of_ble_eq_true rfl, Nat.le_of_ble_eq_true rfl⟩ (Nat.le_of_ble_eq_true rfl) (Nat.le_of_ble_eq_true rfl) (Nat.le_of_ble_eq_true rfl) (fun r u h_3 => ?_)
  rcases h_3 with ⟨c_3, rfl, rfl⟩ | ⟨c_3, rfl, rfl⟩ | ⟨c_3, rfl, rfl⟩
  · refine J_if_eq (tgt := 11) hC dX11_paidOf_6 (by decide) (fun _ => ?_) (fun c => absurd (by decide) c)
    refine J_aload_n hC dX11_paidOf_11 0 rfl rfl ?_
    refine J_get (v := .ref (m 1)) hC wu_X11 rfl dX11_paidOf_12 0 0 (by decide) wf_X11_7 rfl rfl ?_
    refine J_iload_n hC dX11_paidOf_15 1 rfl rfl ?_
    refine J_iload_n hC dX11_paidOf_16 2 rfl rfl ?_
    refine J_callSi hC dX11_paidOf_17 wl_X11_73 wi_X11 yi_X11_find (mdl0_ir (c_X11_find _ G (m 1) (M 0) bc v d (hbc) (by omega))) rfl rfl ⟨Nat.le_of_ble_eq_true rfl, Nat.le_of_ble_eq_true rfl⟩ (Nat.le_of_ble_eq_true rfl) (Nat.le_of_ble_eq_true rfl) (Nat.le_of_ble_eq_true rfl) (fun r u h_17 => ?_)
    subst h_17
    obtain ⟨hin, k, hk, ek⟩ := c_3
    refine J_topi ek ?_
    have ecl : cl (m_find (M 0) v d bc) = k := by rw [ek, cl, nI_clamp (by omega)]
    refine J_istore_n hC [(3, .int (nI k)), (0, .ref (m 0)), (1, .int v), (2, .int d)] dX11_paidOf_20 rfl (by decide) rfl ?_
    refine J_aload_n hC dX11_paidOf_21 1 rfl rfl ?_
    refine J_get (v := .ref (m 1)) hC wu_X11 rfl dX11_paidOf_22 0 0 (by decide) wf_X11_7 rfl rfl ?_
    refine J_iload_n hC dX11_paidOf_25 0 rfl rfl ?_
    refine J_callSi hC dX11_paidOf_26 wl_X11_69 wi_X11 yi_X11_ofForecast (c_X11_ofForecast _ G (mdW G m (us M 8 2 0)) k) rfl rfl ⟨Nat.le_of_ble_eq_true rfl, Nat.le_of_ble_eq_true rfl⟩ (Nat.le_of_ble_eq_true rfl) (Nat.le_of_ble_eq_true rfl) (Nat.le_of_ble_eq_true rfl) (fun r u h_26 => ?_)
    subst h_26
    refine J_iconst (v := 4) hC dX11_paidOf_29 rfl ?_
    refine J_iadd (v := nI (76 + 5 * k)) hC dX11_paidOf_30 ((nI_add (72 + 5 * k) 4).trans (congrArg nI (by omega))) ?_
    refine J_iald (i := 76 + 5 * k) (v := M 0 (76 + 5 * k)) hC dX11_paidOf_31 1 rfl (by omega) (by decide) rfl ?_
    refine J_iret hC hR dX11_paidOf_32 rfl (us M 8 2 0) ?_ ?_ (by decide) (by decide)
    · exact Or.inl ⟨⟨hin, k, hk, ek⟩, by rw [ecl], rfl⟩
    · rfl
  · refine J_if_eq (tgt := 11) hC dX11_paidOf_6 (by decide) (fun c => absurd c (by decide)) (fun _ => ?_)
    refine J_iconst (v := 0) hC dX11_paidOf_9 rfl ?_
    refine J_iret hC hR dX11_paidOf_10 rfl (us M 8 2 1) ?_ ?_ (by decide) (by decide)
    · exact Or.inr (Or.inl ⟨c_3, rfl, rfl⟩)
    · rfl
  · refine J_if_eq (tgt := 11) hC dX11_paidOf_6 (by decide) (fun c => absurd c (by decide)) (fun _ => ?_)
    refine J_iconst (v := 0) hC dX11_paidOf_9 rfl ?_
    refine J_iret hC hR dX11_paidOf_10 rfl (us M 8 2 2) ?_ ?_ (by decide) (by decide)
    · exact Or.inr (Or.inr (⟨c_3, rfl, rfl⟩))
    · rfl

set_option maxRecDepth 100000 in
set_option maxHeartbeats 4000000 in
theorem c_X11_pageOf (l : Launch) (G : gT) (m : Nat → Nat) (M : CT) (vc : Nat) (bc : Nat) (v : Int32) (d : Int32) (hvc : M 0 6 = nI vc) (bvc : vc ≤ 6) (hbc : M 0 8 = nI bc) (bbc : bc ≤ 30) : MI l yX11_pageOf cX11_pageOf 3 (some .int) { frames := 4, cells := 0, slots := 0, locals := 88 } [.ref (m 0), .int v, .int d] G (mdW G m M) (fun r (u : CT) => ((inr v vc ∧ ∃ k, k < bc ∧ m_find (M 0) v d bc = nI k) ∧ nI (cl (m_find (M 0) v d bc) / 4) = r ∧ (us M 8 2 0) = u) ∨ ((¬ inr v vc) ∧ 0 = r ∧ (us M 8 2 1) = u) ∨ ((inr v vc ∧ m_find (M 0) v d bc = -1) ∧ 0 = r ∧ (us M 8 2 2) = u)) (fun u => mdW G m u) := by
  refine jm_i (own := RX11) (by decide) rfl (Nat.le_of_ble_eq_true rfl) (fun x hl hC hR hN => ?_)
  subst hl
  refine J_aload_n hC dX11_pageOf_0 0 rfl rfl ?_
  refine J_iload_n hC dX11_pageOf_1 1 rfl rfl ?_
  refine J_iload_n hC dX11_pageOf_2 2 rfl rfl ?_
  refine J_callVi hC dX11_pageOf_3 wl_X11_293 yi_X11_noForecast (c_X11_noForecast _ G m M vc bc v d (hvc) (by omega) (hbc) (by omega)) rfl rfl 0 11 rfl rfl ⟨Nat.le_of_ble_eq_true rfl, Nat.le_of_ble_eq_true rfl⟩ (Nat.le_of_ble_eq_true rfl) (Nat.le_of_ble_eq_true rfl) (Nat.le_of_ble_eq_true rfl) (fun r u h_3 => ?_)
  rcases h_3 with ⟨c_3, rfl, rfl⟩ | ⟨c_3, rfl, rfl⟩ | ⟨c_3, rfl, rfl⟩
  · refine J_if_eq (tgt := 11) hC dX11_pageOf_6 (by decide) (fun _ => ?_) (fun c => absurd (by decide) c)
    refine J_aload_n hC dX11_pageOf_11 0 rfl rfl ?_
    refine J_get (v := .ref (m 1)) hC wu_X11 rfl dX11_pageOf_12 0 0 (by decide) wf_X11_7 rfl rfl ?_
    refine J_iload_n hC dX11_pageOf_15 1 rfl rfl ?_
    refine J_iload_n hC dX11_pageOf_16 2 rfl rfl ?_
    refine J_callSi hC dX11_pageOf_17 wl_X11_73 wi_X11 yi_X11_find (mdl0_ir (c_X11_find _ G (m 1) (M 0) bc v d (hbc) (by omega))) rfl rfl ⟨Nat.le_of_ble_eq_true rfl, Nat.le_of_ble_eq_true rfl⟩ (Nat.le_of_ble_eq_true rfl) (Nat.le_of_ble_eq_true rfl) (Nat.le_of_ble_eq_true rfl) (fun r u h_17 => ?_)
    subst h_17
    obtain ⟨hin, k, hk, ek⟩ := c_3
    refine J_topi ek ?_
    have ecl : cl (m_find (M 0) v d bc) = k := by rw [ek, cl, nI_clamp (by omega)]
    refine J_iconst (v := 4) hC dX11_pageOf_20 rfl ?_
    refine J_idiv (v := nI (k / 4)) hC dX11_pageOf_21 (by decide) (pk_div (a := k) (d := 4) (by omega) (by omega) (by omega)) ?_
    refine J_iret hC hR dX11_pageOf_22 rfl (us M 8 2 0) ?_ ?_ (by decide) (by decide)
    · exact Or.inl ⟨⟨hin, k, hk, ek⟩, by rw [ecl], rfl⟩
    · rfl
  · refine J_if_eq (tgt := 11) hC dX11_pageOf_6 (by decide) (fun c => absurd c (by decide)) (fun _ => ?_)
    refine J_iconst (v := 0) hC dX11_pageOf_9 rfl ?_
    refine J_iret hC hR dX11_pageOf_10 rfl (us M 8 2 1) ?_ ?_ (by decide) (by decide)
    · exact Or.inr (Or.inl ⟨c_3, rfl, rfl⟩)
    · rfl
  · refine J_if_eq (tgt := 11) hC dX11_pageOf_6 (by decide) (fun c => absurd c (by decide)) (fun _ => ?_)
    refine J_iconst (v := 0) hC dX11_pageOf_9 rfl ?_
    refine J_iret hC hR dX11_pageOf_10 rfl (us M 8 2 2) ?_ ?_ (by decide) (by decide)
    · exact Or.inr (Or.inr (⟨c_3, rfl, rfl⟩))
    · rfl

set_option maxRecDepth 100000 in
set_option maxHeartbeats 4000000 in
theorem c_X11_refundOf (l : Launch) (G : gT) (m : Nat → Nat) (M : CT) (bc : Nat) (v : Int32) (hbc : M 0 8 = nI bc) (bbc : bc ≤ 30) : MI l yX11_refundOf cX11_refundOf 2 (some .int) { frames := 3, cells := 0, slots := 0, locals := 66 } [.ref (m 0), .int v] G (mdW G m M) (fun r (u : CT) => ((inr v ((bc + 4 - 1) / 4)) ∧ m_refund (M 0) (cl v) bc = r ∧ (us M 8 2 0) = u) ∨ ((¬ inr v ((bc + 4 - 1) / 4)) ∧ 0 = r ∧ (us M 8 2 1) = u)) (fun u => mdW G m u) := by
  refine jm_i (own := RX11) (by decide) rfl (Nat.le_of_ble_eq_true rfl) (fun x hl hC hR hN => ?_)
  subst hl
  refine J_aload_n hC dX11_refundOf_0 0 rfl rfl ?_
  refine J_iload_n hC dX11_refundOf_1 1 rfl rfl ?_
  refine J_callVi hC dX11_refundOf_2 wl_X11_300 yi_X11_noPage (c_X11_noPage _ G m M bc v (hbc) (by omega)) rfl rfl 0 11 rfl rfl ⟨Nat.le_of_ble_eq_true rfl, Nat.le_of_ble_eq_true rfl⟩ (Nat.le_of_ble_eq_true rfl) (Nat.le_of_ble_eq_true rfl) (Nat.le_of_ble_eq_true rfl) (fun r u h_2 => ?_)
  rcases h_2 with ⟨c_2, rfl, rfl⟩ | ⟨c_2, rfl, rfl⟩
  · refine J_if_eq (tgt := 10) hC dX11_refundOf_5 (by decide) (fun _ => ?_) (fun c => absurd (by decide) c)
    obtain ⟨ev, hv⟩ := inr_eq c_2 (by omega)
    refine J_lvq (lv' := [(0, .ref (m 0)), (1, .int (nI (cl v)))]) (by rw [← ev]; first | done | rfl) ?_
    refine J_aload_n hC dX11_refundOf_10 0 rfl rfl ?_
    refine J_get (v := .ref (m 1)) hC wu_X11 rfl dX11_refundOf_11 0 0 (by decide) wf_X11_7 rfl rfl ?_
    refine J_iload_n hC dX11_refundOf_14 1 rfl rfl ?_
    refine J_callSi hC dX11_refundOf_15 wl_X11_84 wi_X11 yi_X11_refund (mdl0_ir (c_X11_refund _ G (m 1) (M 0) bc (cl v) (hbc) (by omega) (by omega))) rfl rfl ⟨Nat.le_of_ble_eq_true rfl, Nat.le_of_ble_eq_true rfl⟩ (Nat.le_of_ble_eq_true rfl) (Nat.le_of_ble_eq_true rfl) (Nat.le_of_ble_eq_true rfl) (fun r u h_15 => ?_)
    subst h_15
    refine J_iret hC hR dX11_refundOf_18 rfl (us M 8 2 0) ?_ ?_ (by decide) (by decide)
    · exact Or.inl ⟨c_2, rfl, rfl⟩
    · rfl
  · refine J_if_eq (tgt := 10) hC dX11_refundOf_5 (by decide) (fun c => absurd c (by decide)) (fun _ => ?_)
    refine J_iconst (v := 0) hC dX11_refundOf_8 rfl ?_
    refine J_iret hC hR dX11_refundOf_9 rfl (us M 8 2 1) ?_ ?_ (by decide) (by decide)
    · exact Or.inr (⟨c_2, rfl, rfl⟩)
    · rfl

set_option maxRecDepth 100000 in
set_option maxHeartbeats 4000000 in
theorem c_X11_canRetract (l : Launch) (G : gT) (m : Nat → Nat) (M : CT) (bc : Nat) (v : Int32) (hbc : M 0 8 = nI bc) (bbc : bc ≤ 30) : MI l yX11_canRetract cX11_canRetract 2 (some .boolean) { frames := 3, cells := 0, slots := 0, locals := 66 } [.ref (m 0), .int v] G (mdW G m M) (fun r (u : CT) => ((inr v ((bc + 4 - 1) / 4) ∧ ¬ M 0 4 < m_refund (M 0) (cl v) bc) ∧ 1 = r ∧ (us M 8 2 0) = u) ∨ ((inr v ((bc + 4 - 1) / 4) ∧ M 0 4 < m_refund (M 0) (cl v) bc) ∧ 0 = r ∧ (us M 8 2 0) = u) ∨ ((¬ inr v ((bc + 4 - 1) / 4)) ∧ 0 = r ∧ (us M 8 2 1) = u)) (fun u => mdW G m u) := by
  refine jm_i (own := RX11) (by decide) rfl (Nat.le_of_ble_eq_true rfl) (fun x hl hC hR hN => ?_)
  subst hl
  refine J_aload_n hC dX11_canRetract_0 0 rfl rfl ?_
  refine J_iload_n hC dX11_canRetract_1 1 rfl rfl ?_
  refine J_callVi hC dX11_canRetract_2 wl_X11_300 yi_X11_noPage (c_X11_noPage _ G m M bc v (hbc) (by omega)) rfl rfl 0 11 rfl rfl ⟨Nat.le_of_ble_eq_true rfl, Nat.le_of_ble_eq_true rfl⟩ (Nat.le_of_ble_eq_true rfl) (Nat.le_of_ble_eq_true rfl) (Nat.le_of_ble_eq_true rfl) (fun r u h_2 => ?_)
  rcases h_2 with ⟨c_2, rfl, rfl⟩ | ⟨c_2, rfl, rfl⟩
  · refine J_if_eq (tgt := 10) hC dX11_canRetract_5 (by decide) (fun _ => ?_) (fun c => absurd (by decide) c)
    obtain ⟨ev, hv⟩ := inr_eq c_2 (by omega)
    refine J_lvq (lv' := [(0, .ref (m 0)), (1, .int (nI (cl v)))]) (by rw [← ev]; first | done | rfl) ?_
    refine J_aload_n hC dX11_canRetract_10 0 rfl rfl ?_
    refine J_get (v := .ref (m 1)) hC wu_X11 rfl dX11_canRetract_11 0 0 (by decide) wf_X11_7 rfl rfl ?_
    refine J_iload_n hC dX11_canRetract_14 1 rfl rfl ?_
    refine J_callSi hC dX11_canRetract_15 wl_X11_84 wi_X11 yi_X11_refund (mdl0_ir (c_X11_refund _ G (m 1) (M 0) bc (cl v) (hbc) (by omega) (by omega))) rfl rfl ⟨Nat.le_of_ble_eq_true rfl, Nat.le_of_ble_eq_true rfl⟩ (Nat.le_of_ble_eq_true rfl) (Nat.le_of_ble_eq_true rfl) (Nat.le_of_ble_eq_true rfl) (fun r u h_15 => ?_)
    subst h_15
    refine J_aload_n hC dX11_canRetract_18 0 rfl rfl ?_
    refine J_get (v := .ref (m 1)) hC wu_X11 rfl dX11_canRetract_19 0 0 (by decide) wf_X11_7 rfl rfl ?_
    refine J_iconst (v := 4) hC dX11_canRetract_22 rfl ?_
    refine J_iald (i := 4) (v := M 0 4) hC dX11_canRetract_23 1 rfl (by omega) (by decide) rfl ?_
    refine J_ic_gt (tgt := 31) hC dX11_canRetract_24 (by decide) (fun (c_24 : (M 0 4) < (m_refund (M 0) (cl v) bc)) => ?_) (fun (c_24 : ¬ (M 0 4) < (m_refund (M 0) (cl v) bc)) => ?_)
    · refine J_iconst (v := 0) hC dX11_canRetract_31 rfl ?_
      refine J_iret hC hR dX11_canRetract_32 rfl (us M 8 2 0) ?_ ?_ (by decide) (by decide)
      · exact Or.inr (Or.inl ⟨⟨c_2, c_24⟩, rfl, rfl⟩)
      · rfl
    · refine J_iconst (v := 1) hC dX11_canRetract_27 rfl ?_
      refine J_goto (tgt := 32) hC dX11_canRetract_28 (by decide) ?_
      refine J_iret hC hR dX11_canRetract_32 rfl (us M 8 2 0) ?_ ?_ (by decide) (by decide)
      · exact Or.inl ⟨⟨c_2, c_24⟩, rfl, rfl⟩
      · rfl
  · refine J_if_eq (tgt := 10) hC dX11_canRetract_5 (by decide) (fun c => absurd c (by decide)) (fun _ => ?_)
    refine J_iconst (v := 0) hC dX11_canRetract_8 rfl ?_
    refine J_iret hC hR dX11_canRetract_9 rfl (us M 8 2 1) ?_ ?_ (by decide) (by decide)
    · exact Or.inr (Or.inr (⟨c_2, rfl, rfl⟩))
    · rfl

set_option maxRecDepth 100000 in
set_option maxHeartbeats 4000000 in
theorem c_X11_printRefusal (l : Launch) (G : gT) (m : Nat → Nat) (M : CT) (vc : Nat) (bc : Nat) (v : Int32) (d : Int32) (hvc : M 0 6 = nI vc) (bvc : vc ≤ 6) (hbc : M 0 8 = nI bc) (bbc : bc ≤ 30) : MI l yX11_printRefusal cX11_printRefusal 3 (some .int) { frames := 3, cells := 0, slots := 0, locals := 66 } [.ref (m 0), .int v, .int d] G (mdW G m M) (fun r (u : CT) => ((inr v vc) ∧ m_why (M 0) v d bc = r ∧ (us M 8 2 0) = u) ∨ ((¬ inr v vc) ∧ 0 = r ∧ (us M 8 2 1) = u)) (fun u => mdW G m u) := by
  refine jm_i (own := RX11) (by decide) rfl (Nat.le_of_ble_eq_true rfl) (fun x hl hC hR hN => ?_)
  subst hl
  refine J_aload_n hC dX11_printRefusal_0 0 rfl rfl ?_
  refine J_iload_n hC dX11_printRefusal_1 1 rfl rfl ?_
  refine J_callVi hC dX11_printRefusal_2 wl_X11_284 yi_X11_noVillage (c_X11_noVillage _ G m M vc v (hvc) (by omega)) rfl rfl 0 11 rfl rfl ⟨Nat.le_of_ble_eq_true rfl, Nat.le_of_ble_eq_true rfl⟩ (Nat.le_of_ble_eq_true rfl) (Nat.le_of_ble_eq_true rfl) (Nat.le_of_ble_eq_true rfl) (fun r u h_2 => ?_)
  rcases h_2 with ⟨c_2, rfl, rfl⟩ | ⟨c_2, rfl, rfl⟩
  · refine J_if_eq (tgt := 10) hC dX11_printRefusal_5 (by decide) (fun _ => ?_) (fun c => absurd (by decide) c)
    refine J_aload_n hC dX11_printRefusal_10 0 rfl rfl ?_
    refine J_get (v := .ref (m 1)) hC wu_X11 rfl dX11_printRefusal_11 0 0 (by decide) wf_X11_7 rfl rfl ?_
    refine J_iload_n hC dX11_printRefusal_14 1 rfl rfl ?_
    refine J_iload_n hC dX11_printRefusal_15 2 rfl rfl ?_
    refine J_callSi hC dX11_printRefusal_16 wl_X11_229 wi_X11 yi_X11_whyNotPrint (mdl0_ir (c_X11_whyNotPrint _ G (m 1) (M 0) bc v d (hbc) (by omega))) rfl rfl ⟨Nat.le_of_ble_eq_true rfl, Nat.le_of_ble_eq_true rfl⟩ (Nat.le_of_ble_eq_true rfl) (Nat.le_of_ble_eq_true rfl) (Nat.le_of_ble_eq_true rfl) (fun r u h_16 => ?_)
    subst h_16
    refine J_iret hC hR dX11_printRefusal_19 rfl (us M 8 2 0) ?_ ?_ (by decide) (by decide)
    · exact Or.inl ⟨c_2, rfl, rfl⟩
    · rfl
  · refine J_if_eq (tgt := 10) hC dX11_printRefusal_5 (by decide) (fun c => absurd c (by decide)) (fun _ => ?_)
    refine J_iconst (v := 0) hC dX11_printRefusal_8 rfl ?_
    refine J_iret hC hR dX11_printRefusal_9 rfl (us M 8 2 1) ?_ ?_ (by decide) (by decide)
    · exact Or.inr (⟨c_2, rfl, rfl⟩)
    · rfl

set_option maxRecDepth 100000 in
set_option maxHeartbeats 4000000 in
theorem c_X11_likeliestWeather (l : Launch) (G : gT) (m : Nat → Nat) (M : CT) : MI l yX11_likeliestWeather cX11_likeliestWeather 3 (some .int) { frames := 0, cells := 0, slots := 0, locals := 0 } [.ref (m 0)] G (mdW G m M) (fun r (_ : Unit) => r = nI (s_fg (fun i => M 0 (1 + i)))) (fun _ => mdW G m (us M 8 2 0)) := by
  refine jm_i (own := RX11) (by decide) rfl (Nat.le_of_ble_eq_true rfl) (fun x hl hC hR hN => ?_)
  subst hl
  refine J_aload_n hC dX11_likeliestWeather_0 0 rfl rfl ?_
  refine J_iconst (v := 0) hC dX11_likeliestWeather_1 rfl ?_
  refine J_put (ws' := mdW G m (us M 8 2 0)) hC wu_X11 rfl tyX11_ok nmX11 dX11_likeliestWeather_2 0 8 (by decide) wf_X11_66 rfl rfl (Nat.le_of_ble_eq_true rfl) rfl rfl rfl ?_
  refine J_iconst (v := 0) hC dX11_likeliestWeather_5 rfl ?_
  refine J_istore_n hC [(1, .int 0), (0, .ref (m 0))] dX11_likeliestWeather_6 rfl (by decide) rfl ?_
  refine J_iconst (v := 1) hC dX11_likeliestWeather_7 rfl ?_
  refine J_istore_n hC [(2, .int 1), (1, .int 0), (0, .ref (m 0))] dX11_likeliestWeather_8 rfl (by decide) rfl ?_
  refine J_iload_n hC dX11_likeliestWeather_9 0 rfl rfl ?_
  refine J_iconst (v := 3) hC dX11_likeliestWeather_10 rfl ?_
  refine J_ic_ge (tgt := 45) hC dX11_likeliestWeather_11 (by decide) (fun c => absurd c (by decide)) (fun _ => ?_)
  refine J_aload_n hC dX11_likeliestWeather_14 2 rfl rfl ?_
  refine J_get (v := .ref (m 1)) hC wu_X11 rfl dX11_likeliestWeather_15 0 0 (by decide) wf_X11_7 rfl rfl ?_
  refine J_iconst (v := 1) hC dX11_likeliestWeather_18 rfl ?_
  refine J_iload_n hC dX11_likeliestWeather_19 0 rfl rfl ?_
  refine J_iadd (v := nI 2) hC dX11_likeliestWeather_20 ((nI_add 1 1).trans (congrArg nI (by omega))) ?_
  refine J_iald (i := 2) (v := M 0 2) hC dX11_likeliestWeather_21 1 rfl (by omega) (by decide) rfl ?_
  refine J_aload_n hC dX11_likeliestWeather_22 2 rfl rfl ?_
  refine J_get (v := .ref (m 1)) hC wu_X11 rfl dX11_likeliestWeather_23 0 0 (by decide) wf_X11_7 rfl rfl ?_
  refine J_iconst (v := 1) hC dX11_likeliestWeather_26 rfl ?_
  refine J_iload_n hC dX11_likeliestWeather_27 1 rfl rfl ?_
  refine J_iadd (v := 1) hC dX11_likeliestWeather_28 (Int32.add_zero _) ?_
  refine J_iald (i := 1) (v := M 0 1) hC dX11_likeliestWeather_29 1 rfl (by omega) (by decide) rfl ?_
  refine J_ic_le (tgt := 37) hC dX11_likeliestWeather_30 (by decide) (fun (c_30 : (M 0 2) ≤ (M 0 1)) => ?_) (fun (c_30 : ¬ (M 0 2) ≤ (M 0 1)) => ?_)
  · refine J_iload_n hC dX11_likeliestWeather_37 1 rfl rfl ?_
    refine J_istore_n hC [(1, .int 0), (2, .int 1), (0, .ref (m 0))] dX11_likeliestWeather_38 rfl (by decide) rfl ?_
    refine J_iinc hC [(2, .int 2), (1, .int 0), (0, .ref (m 0))] dX11_likeliestWeather_39 1 rfl (by decide +kernel) (by decide) rfl ?_
    refine J_goto (tgt := 9) hC dX11_likeliestWeather_42 (by decide) ?_
    refine J_iload_n hC dX11_likeliestWeather_9 0 rfl rfl ?_
    refine J_iconst (v := 3) hC dX11_likeliestWeather_10 rfl ?_
    refine J_ic_ge (tgt := 45) hC dX11_likeliestWeather_11 (by decide) (fun c => absurd c (by decide)) (fun _ => ?_)
    refine J_aload_n hC dX11_likeliestWeather_14 2 rfl rfl ?_
    refine J_get (v := .ref (m 1)) hC wu_X11 rfl dX11_likeliestWeather_15 0 0 (by decide) wf_X11_7 rfl rfl ?_
    refine J_iconst (v := 1) hC dX11_likeliestWeather_18 rfl ?_
    refine J_iload_n hC dX11_likeliestWeather_19 0 rfl rfl ?_
    refine J_iadd (v := nI 3) hC dX11_likeliestWeather_20 ((nI_add 1 2).trans (congrArg nI (by omega))) ?_
    refine J_iald (i := 3) (v := M 0 3) hC dX11_likeliestWeather_21 1 rfl (by omega) (by decide) rfl ?_
    refine J_aload_n hC dX11_likeliestWeather_22 2 rfl rfl ?_
    refine J_get (v := .ref (m 1)) hC wu_X11 rfl dX11_likeliestWeather_23 0 0 (by decide) wf_X11_7 rfl rfl ?_
    refine J_iconst (v := 1) hC dX11_likeliestWeather_26 rfl ?_
    refine J_iload_n hC dX11_likeliestWeather_27 1 rfl rfl ?_
    refine J_iadd (v := 1) hC dX11_likeliestWeather_28 (Int32.add_zero _) ?_
    refine J_iald (i := 1) (v := M 0 1) hC dX11_likeliestWeather_29 1 rfl (by omega) (by decide) rfl ?_
    refine J_ic_le (tgt := 37) hC dX11_likeliestWeather_30 (by decide) (fun (c_30_1 : (M 0 3) ≤ (M 0 1)) => ?_) (fun (c_30_1 : ¬ (M 0 3) ≤ (M 0 1)) => ?_)
    · refine J_iload_n hC dX11_likeliestWeather_37 1 rfl rfl ?_
      refine J_istore_n hC [(1, .int 0), (2, .int 2), (0, .ref (m 0))] dX11_likeliestWeather_38 rfl (by decide) rfl ?_
      refine J_iinc hC [(2, .int 3), (1, .int 0), (0, .ref (m 0))] dX11_likeliestWeather_39 1 rfl (by decide +kernel) (by decide) rfl ?_
      refine J_goto (tgt := 9) hC dX11_likeliestWeather_42 (by decide) ?_
      refine J_iload_n hC dX11_likeliestWeather_9 0 rfl rfl ?_
      refine J_iconst (v := 3) hC dX11_likeliestWeather_10 rfl ?_
      refine J_ic_ge (tgt := 45) hC dX11_likeliestWeather_11 (by decide) (fun _ => ?_) (fun c => absurd (by decide) c)
      refine J_iload_n hC dX11_likeliestWeather_45 1 rfl rfl ?_
      refine J_iret hC hR dX11_likeliestWeather_46 rfl () ?_ ?_ (by decide) (by decide)
      · rw [show s_fg (fun i => M 0 (1 + i)) = 0 from by simp [s_fg, fo, c_30, c_30_1]]; rfl
      · rfl
    · refine J_iload_n hC dX11_likeliestWeather_33 0 rfl rfl ?_
      refine J_goto (tgt := 38) hC dX11_likeliestWeather_34 (by decide) ?_
      refine J_istore_n hC [(1, .int 2), (2, .int 2), (0, .ref (m 0))] dX11_likeliestWeather_38 rfl (by decide) rfl ?_
      refine J_iinc hC [(2, .int 3), (1, .int 2), (0, .ref (m 0))] dX11_likeliestWeather_39 1 rfl (by decide +kernel) (by decide) rfl ?_
      refine J_goto (tgt := 9) hC dX11_likeliestWeather_42 (by decide) ?_
      refine J_iload_n hC dX11_likeliestWeather_9 0 rfl rfl ?_
      refine J_iconst (v := 3) hC dX11_likeliestWeather_10 rfl ?_
      refine J_ic_ge (tgt := 45) hC dX11_likeliestWeather_11 (by decide) (fun _ => ?_) (fun c => absurd (by decide) c)
      refine J_iload_n hC dX11_likeliestWeather_45 1 rfl rfl ?_
      refine J_iret hC hR dX11_likeliestWeather_46 rfl () ?_ ?_ (by decide) (by decide)
      · rw [show s_fg (fun i => M 0 (1 + i)) = 2 from by simp [s_fg, fo, c_30, c_30_1]]; rfl
      · rfl
  · refine J_iload_n hC dX11_likeliestWeather_33 0 rfl rfl ?_
    refine J_goto (tgt := 38) hC dX11_likeliestWeather_34 (by decide) ?_
    refine J_istore_n hC [(1, .int 1), (2, .int 1), (0, .ref (m 0))] dX11_likeliestWeather_38 rfl (by decide) rfl ?_
    refine J_iinc hC [(2, .int 2), (1, .int 1), (0, .ref (m 0))] dX11_likeliestWeather_39 1 rfl (by decide +kernel) (by decide) rfl ?_
    refine J_goto (tgt := 9) hC dX11_likeliestWeather_42 (by decide) ?_
    refine J_iload_n hC dX11_likeliestWeather_9 0 rfl rfl ?_
    refine J_iconst (v := 3) hC dX11_likeliestWeather_10 rfl ?_
    refine J_ic_ge (tgt := 45) hC dX11_likeliestWeather_11 (by decide) (fun c => absurd c (by decide)) (fun _ => ?_)
    refine J_aload_n hC dX11_likeliestWeather_14 2 rfl rfl ?_
    refine J_get (v := .ref (m 1)) hC wu_X11 rfl dX11_likeliestWeather_15 0 0 (by decide) wf_X11_7 rfl rfl ?_
    refine J_iconst (v := 1) hC dX11_likeliestWeather_18 rfl ?_
    refine J_iload_n hC dX11_likeliestWeather_19 0 rfl rfl ?_
    refine J_iadd (v := nI 3) hC dX11_likeliestWeather_20 ((nI_add 1 2).trans (congrArg nI (by omega))) ?_
    refine J_iald (i := 3) (v := M 0 3) hC dX11_likeliestWeather_21 1 rfl (by omega) (by decide) rfl ?_
    refine J_aload_n hC dX11_likeliestWeather_22 2 rfl rfl ?_
    refine J_get (v := .ref (m 1)) hC wu_X11 rfl dX11_likeliestWeather_23 0 0 (by decide) wf_X11_7 rfl rfl ?_
    refine J_iconst (v := 1) hC dX11_likeliestWeather_26 rfl ?_
    refine J_iload_n hC dX11_likeliestWeather_27 1 rfl rfl ?_
    refine J_iadd (v := nI 2) hC dX11_likeliestWeather_28 ((nI_add 1 1).trans (congrArg nI (by omega))) ?_
    refine J_iald (i := 2) (v := M 0 2) hC dX11_likeliestWeather_29 1 rfl (by omega) (by decide) rfl ?_
    refine J_ic_le (tgt := 37) hC dX11_likeliestWeather_30 (by decide) (fun (c_30_1 : (M 0 3) ≤ (M 0 2)) => ?_) (fun (c_30_1 : ¬ (M 0 3) ≤ (M 0 2)) => ?_)
    · refine J_iload_n hC dX11_likeliestWeather_37 1 rfl rfl ?_
      refine J_istore_n hC [(1, .int 1), (2, .int 2), (0, .ref (m 0))] dX11_likeliestWeather_38 rfl (by decide) rfl ?_
      refine J_iinc hC [(2, .int 3), (1, .int 1), (0, .ref (m 0))] dX11_likeliestWeather_39 1 rfl (by decide +kernel) (by decide) rfl ?_
      refine J_goto (tgt := 9) hC dX11_likeliestWeather_42 (by decide) ?_
      refine J_iload_n hC dX11_likeliestWeather_9 0 rfl rfl ?_
      refine J_iconst (v := 3) hC dX11_likeliestWeather_10 rfl ?_
      refine J_ic_ge (tgt := 45) hC dX11_likeliestWeather_11 (by decide) (fun _ => ?_) (fun c => absurd (by decide) c)
      refine J_iload_n hC dX11_likeliestWeather_45 1 rfl rfl ?_
      refine J_iret hC hR dX11_likeliestWeather_46 rfl () ?_ ?_ (by decide) (by decide)
      · rw [show s_fg (fun i => M 0 (1 + i)) = 1 from by simp [s_fg, fo, c_30, c_30_1]]; rfl
      · rfl
    · refine J_iload_n hC dX11_likeliestWeather_33 0 rfl rfl ?_
      refine J_goto (tgt := 38) hC dX11_likeliestWeather_34 (by decide) ?_
      refine J_istore_n hC [(1, .int 2), (2, .int 2), (0, .ref (m 0))] dX11_likeliestWeather_38 rfl (by decide) rfl ?_
      refine J_iinc hC [(2, .int 3), (1, .int 2), (0, .ref (m 0))] dX11_likeliestWeather_39 1 rfl (by decide +kernel) (by decide) rfl ?_
      refine J_goto (tgt := 9) hC dX11_likeliestWeather_42 (by decide) ?_
      refine J_iload_n hC dX11_likeliestWeather_9 0 rfl rfl ?_
      refine J_iconst (v := 3) hC dX11_likeliestWeather_10 rfl ?_
      refine J_ic_ge (tgt := 45) hC dX11_likeliestWeather_11 (by decide) (fun _ => ?_) (fun c => absurd (by decide) c)
      refine J_iload_n hC dX11_likeliestWeather_45 1 rfl rfl ?_
      refine J_iret hC hR dX11_likeliestWeather_46 rfl () ?_ ?_ (by decide) (by decide)
      · rw [show s_fg (fun i => M 0 (1 + i)) = 2 from by simp [s_fg, fo, c_30, c_30_1]]; rfl
      · rfl

set_option maxRecDepth 100000 in
set_option maxHeartbeats 4000000 in
theorem c_X11_copyDifference (l : Launch) (G : gT) (m : Nat → Nat) (M : CT) (bc : Nat) (hbc : M 0 8 = nI bc) (bbc : bc ≤ 30) : MI l yX11_copyDifference cX11_copyDifference 3 (some .int) { frames := 1, cells := 0, slots := 0, locals := 20 } [.ref (m 0)] G (mdW G m M) (fun r (_ : Unit) => r = fo (fun k s => s - M 0 (75 + 5 * k)) 0 bc (M 0 13 - M 0 14)) (fun _ => mdW G m (us M 8 2 0)) := by
  refine jm_i (own := RX11) (by decide) rfl (Nat.le_of_ble_eq_true rfl) (fun x hl hC hR hN => ?_)
  subst hl
  have key : ∀ fuel : Nat, (∀ (i : Nat) (acc : Int32), (i ≤ bc) → (fo (fun k s => s - M 0 (75 + 5 * k)) 0 bc (M 0 13 - M 0 14) = fo (fun k s => s - M 0 (75 + 5 * k)) i (bc - i) acc) → bc - i < fuel → J x G (mdW G m (us M 8 2 0)) 0 0 [(0, .ref (m 0)), (1, .int acc), (2, .int (nI i))] [] 23) := by
    intro fuel
    induction fuel with
    | zero => exact fun _ _ _ _ h => absurd h (Nat.not_lt_zero _)
    | succ fuel ih =>
      intro i acc hi hI hmu
      refine J_iload_n hC dX11_copyDifference_23 2 rfl rfl ?_
      refine J_aload_n hC dX11_copyDifference_24 0 rfl rfl ?_
      refine J_get (v := .ref (m 1)) hC wu_X11 rfl dX11_copyDifference_25 0 0 (by decide) wf_X11_7 rfl rfl ?_
      refine J_bipush (v := 8) hC dX11_copyDifference_28 (by decide +kernel) ?_
      refine J_iald (i := 8) (v := M 0 8) hC dX11_copyDifference_30 1 rfl (by omega) (by decide) rfl ?_
      refine J_topi hbc ?_
      refine J_ic_geN (a := i) (b := bc) (tgt := 54) hC dX11_copyDifference_31 (by decide) (by omega) (by omega) (fun (c_31 : bc ≤ i) => ?_) (fun (c_31 : i < bc) => ?_)
      · refine J_iload_n hC dX11_copyDifference_54 1 rfl rfl ?_
        refine J_iret hC hR dX11_copyDifference_55 rfl () ?_ ?_ (by decide) (by decide)
        · exact (hI.trans (fo_done c_31)).symm
        · rfl
      · refine J_iload_n hC dX11_copyDifference_34 1 rfl rfl ?_
        refine J_aload_n hC dX11_copyDifference_35 0 rfl rfl ?_
        refine J_get (v := .ref (m 1)) hC wu_X11 rfl dX11_copyDifference_36 0 0 (by decide) wf_X11_7 rfl rfl ?_
        refine J_iload_n hC dX11_copyDifference_39 2 rfl rfl ?_
        refine J_callSi hC dX11_copyDifference_40 wl_X11_69 wi_X11 yi_X11_ofForecast (c_X11_ofForecast _ G (mdW G m (us M 8 2 0)) i) rfl rfl ⟨Nat.le_of_ble_eq_true rfl, Nat.le_of_ble_eq_true rfl⟩ (Nat.le_of_ble_eq_true rfl) (Nat.le_of_ble_eq_true rfl) (Nat.le_of_ble_eq_true rfl) (fun r u h_40 => ?_)
        subst h_40
        refine J_iconst (v := 3) hC dX11_copyDifference_43 rfl ?_
        refine J_iadd (v := nI (75 + 5 * i)) hC dX11_copyDifference_44 ((nI_add (72 + 5 * i) 3).trans (congrArg nI (by omega))) ?_
        refine J_iald (i := 75 + 5 * i) (v := M 0 (75 + 5 * i)) hC dX11_copyDifference_45 1 rfl (by omega) (by decide) rfl ?_
        refine J_isub (v := acc - (M 0 (75 + 5 * i))) hC dX11_copyDifference_46 rfl ?_
        refine J_istore_n hC [(1, .int (acc - (M 0 (75 + 5 * i)))), (0, .ref (m 0)), (2, .int (nI i))] dX11_copyDifference_47 rfl (by decide) rfl ?_
        refine J_iinc hC [(2, .int (nI (i + 1))), (1, .int (acc - (M 0 (75 + 5 * i)))), (0, .ref (m 0))] dX11_copyDifference_48 2 rfl (nI_inc _) (by decide) rfl ?_
        refine J_goto (tgt := 23) hC dX11_copyDifference_51 (by decide) ?_
        refine J_lv (lv' := [(0, .ref (m 0)), (1, .int (acc - (M 0 (75 + 5 * i)))), (2, .int (nI (i + 1)))]) [2, 1, 0] rfl ?_
        exact ih (i + 1) (acc - (M 0 (75 + 5 * i))) (by omega) (hI.trans (fo_step c_31)) (by omega)
  refine J_aload_n hC dX11_copyDifference_0 0 rfl rfl ?_
  refine J_iconst (v := 0) hC dX11_copyDifference_1 rfl ?_
  refine J_put (ws' := mdW G m (us M 8 2 0)) hC wu_X11 rfl tyX11_ok nmX11 dX11_copyDifference_2 0 8 (by decide) wf_X11_66 rfl rfl (Nat.le_of_ble_eq_true rfl) rfl rfl rfl ?_
  refine J_aload_n hC dX11_copyDifference_5 0 rfl rfl ?_
  refine J_get (v := .ref (m 1)) hC wu_X11 rfl dX11_copyDifference_6 0 0 (by decide) wf_X11_7 rfl rfl ?_
  refine J_bipush (v := 13) hC dX11_copyDifference_9 (by decide +kernel) ?_
  refine J_iald (i := 13) (v := M 0 13) hC dX11_copyDifference_11 1 rfl (by omega) (by decide) rfl ?_
  refine J_aload_n hC dX11_copyDifference_12 0 rfl rfl ?_
  refine J_get (v := .ref (m 1)) hC wu_X11 rfl dX11_copyDifference_13 0 0 (by decide) wf_X11_7 rfl rfl ?_
  refine J_bipush (v := 14) hC dX11_copyDifference_16 (by decide +kernel) ?_
  refine J_iald (i := 14) (v := M 0 14) hC dX11_copyDifference_18 1 rfl (by omega) (by decide) rfl ?_
  refine J_isub (v := (M 0 13) - (M 0 14)) hC dX11_copyDifference_19 rfl ?_
  refine J_istore_n hC [(1, .int ((M 0 13) - (M 0 14))), (0, .ref (m 0))] dX11_copyDifference_20 rfl (by decide) rfl ?_
  refine J_iconst (v := 0) hC dX11_copyDifference_21 rfl ?_
  refine J_istore_n hC [(2, .int 0), (1, .int ((M 0 13) - (M 0 14))), (0, .ref (m 0))] dX11_copyDifference_22 rfl (by decide) rfl ?_
  refine J_lv (lv' := [(0, .ref (m 0)), (1, .int ((M 0 13) - (M 0 14))), (2, .int 0)]) [2, 1, 0] rfl ?_
  exact (key _) 0 ((M 0 13) - (M 0 14)) (by omega) (rfl) (Nat.lt_succ_self _)

theorem c_X11_copyRow_10 (l : Launch) (G : gT) (m : Nat → Nat) (M : CT) (sp dp : Nat) (h1 : sp + 242 ≤ 242) (h2 : dp + 242 ≤ 242) : MV l yX11_copyRow cX11_copyRow 5 { frames := 0, cells := 0, slots := 0, locals := 0 } [.ref (m 2), .int (nI sp), .ref (m 1), .int (nI dp)] G (mdW G m M) (fun (_ : Unit) => True) (fun _ => mdW G m (ur M 0 (va_cpy (M 1) (M 0) sp dp 242))) := mdc10_v (c_X11_copyRow l G (m 2) (m 1) 242 242 (M 1) (M 0) sp dp h1 h2 (by decide) (by decide))

theorem c_X11_copyRow_03 (l : Launch) (G : gT) (m : Nat → Nat) (M : CT) (sp dp : Nat) (h1 : sp + 242 ≤ 242) (h2 : dp + 242 ≤ 1936) : MV l yX11_copyRow cX11_copyRow 5 { frames := 0, cells := 0, slots := 0, locals := 0 } [.ref (m 1), .int (nI sp), .ref (m 4), .int (nI dp)] G (mdW G m M) (fun (_ : Unit) => True) (fun _ => mdW G m (ur M 3 (va_cpy (M 0) (M 3) sp dp 242))) := mdc03_v (c_X11_copyRow l G (m 1) (m 4) 242 1936 (M 0) (M 3) sp dp h1 h2 (by decide) (by decide))

theorem c_X11_copyRow_30 (l : Launch) (G : gT) (m : Nat → Nat) (M : CT) (sp dp : Nat) (h1 : sp + 242 ≤ 1936) (h2 : dp + 242 ≤ 242) : MV l yX11_copyRow cX11_copyRow 5 { frames := 0, cells := 0, slots := 0, locals := 0 } [.ref (m 4), .int (nI sp), .ref (m 1), .int (nI dp)] G (mdW G m M) (fun (_ : Unit) => True) (fun _ => mdW G m (ur M 0 (va_cpy (M 3) (M 0) sp dp 242))) := mdc30_v (c_X11_copyRow l G (m 4) (m 1) 1936 242 (M 3) (M 0) sp dp h1 h2 (by decide) (by decide))

theorem c_X11_copyRow_02 (l : Launch) (G : gT) (m : Nat → Nat) (M : CT) (sp dp : Nat) (h1 : sp + 242 ≤ 242) (h2 : dp + 242 ≤ 242) : MV l yX11_copyRow cX11_copyRow 5 { frames := 0, cells := 0, slots := 0, locals := 0 } [.ref (m 1), .int (nI sp), .ref (m 3), .int (nI dp)] G (mdW G m M) (fun (_ : Unit) => True) (fun _ => mdW G m (ur M 2 (va_cpy (M 0) (M 2) sp dp 242))) := mdc02_v (c_X11_copyRow l G (m 1) (m 3) 242 242 (M 0) (M 2) sp dp h1 h2 (by decide) (by decide))

theorem c_X11_copyRow_04 (l : Launch) (G : gT) (m : Nat → Nat) (M : CT) (sp dp : Nat) (h1 : sp + 242 ≤ 242) (h2 : dp + 242 ≤ 484) : MV l yX11_copyRow cX11_copyRow 5 { frames := 0, cells := 0, slots := 0, locals := 0 } [.ref (m 1), .int (nI sp), .ref (m 5), .int (nI dp)] G (mdW G m M) (fun (_ : Unit) => True) (fun _ => mdW G m (ur M 4 (va_cpy (M 0) (M 4) sp dp 242))) := mdc04_v (c_X11_copyRow l G (m 1) (m 5) 242 484 (M 0) (M 4) sp dp h1 h2 (by decide) (by decide))

theorem c_X11_copyRow_40 (l : Launch) (G : gT) (m : Nat → Nat) (M : CT) (sp dp : Nat) (h1 : sp + 242 ≤ 484) (h2 : dp + 242 ≤ 242) : MV l yX11_copyRow cX11_copyRow 5 { frames := 0, cells := 0, slots := 0, locals := 0 } [.ref (m 5), .int (nI sp), .ref (m 1), .int (nI dp)] G (mdW G m M) (fun (_ : Unit) => True) (fun _ => mdW G m (ur M 0 (va_cpy (M 4) (M 0) sp dp 242))) := mdc40_v (c_X11_copyRow l G (m 5) (m 1) 484 242 (M 4) (M 0) sp dp h1 h2 (by decide) (by decide))

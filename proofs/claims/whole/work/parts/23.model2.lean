set_option maxRecDepth 100000 in
set_option maxHeartbeats 4000000 in
theorem c_X11_refuses_0 (l : Launch) (G : gT) (m : Nat → Nat) (M : CT) (k : Int32) (h0 : M 8 2 = 0) : MI l yX11_refuses cX11_refuses 3 (some .boolean) { frames := 0, cells := 0, slots := 0, locals := 0 } [.ref (m 0), .int 0, .int k] G (mdW G m M) (fun r (u : CT) => ((True) ∧ 0 = r ∧ M = u)) (fun u => mdW G m u) := by
  refine jm_i (own := RX11) (by decide) rfl (Nat.le_of_ble_eq_true rfl) (fun x hl hC hR hN => ?_)
  subst hl
  refine J_iload_n hC dX11_refuses_0 1 rfl rfl ?_
  refine J_if_eq (tgt := 16) hC dX11_refuses_1 (by decide) (fun _ => ?_) (fun c => absurd (by decide) c)
  refine J_aload_n hC dX11_refuses_16 0 rfl rfl ?_
  refine J_get (v := .int (M 8 2)) hC wu_X11 rfl dX11_refuses_17 0 8 (by decide) wf_X11_66 rfl rfl ?_
  refine J_if_eq (tgt := 27) hC dX11_refuses_20 (by decide) (fun (c_20 : (M 8 2) = 0) => ?_) (fun (c_20 : ¬ (M 8 2) = 0) => ?_)
  · refine J_iconst (v := 0) hC dX11_refuses_27 rfl ?_
    refine J_iret hC hR dX11_refuses_28 rfl M ?_ ?_ (by decide) (by decide)
    · exact ⟨trivial, rfl, rfl⟩
    · rfl
  · exact absurd h0 c_20

set_option maxRecDepth 100000 in
set_option maxHeartbeats 4000000 in
theorem c_X11_refuses_1 (l : Launch) (G : gT) (m : Nat → Nat) (M : CT) (k : Int32) (h0 : M 8 2 = 0) (hk : ¬ k = 0) : MI l yX11_refuses cX11_refuses 3 (some .boolean) { frames := 0, cells := 0, slots := 0, locals := 0 } [.ref (m 0), .int 1, .int k] G (mdW G m M) (fun r (u : CT) => ((True) ∧ 1 = r ∧ (us M 8 2 k) = u)) (fun u => mdW G m u) := by
  refine jm_i (own := RX11) (by decide) rfl (Nat.le_of_ble_eq_true rfl) (fun x hl hC hR hN => ?_)
  subst hl
  refine J_iload_n hC dX11_refuses_0 1 rfl rfl ?_
  refine J_if_eq (tgt := 16) hC dX11_refuses_1 (by decide) (fun c => absurd c (by decide)) (fun _ => ?_)
  refine J_aload_n hC dX11_refuses_4 0 rfl rfl ?_
  refine J_get (v := .int (M 8 2)) hC wu_X11 rfl dX11_refuses_5 0 8 (by decide) wf_X11_66 rfl rfl ?_
  refine J_if_ne (tgt := 16) hC dX11_refuses_8 (by decide) (fun (c_8 : ¬ (M 8 2) = 0) => ?_) (fun (c_8 : (M 8 2) = 0) => ?_)
  · exact absurd h0 c_8
  · refine J_aload_n hC dX11_refuses_11 0 rfl rfl ?_
    refine J_iload_n hC dX11_refuses_12 2 rfl rfl ?_
    refine J_put (ws' := mdW G m (us M 8 2 k)) hC wu_X11 rfl tyX11_ok nmX11 dX11_refuses_13 0 8 (by decide) wf_X11_66 rfl rfl (Nat.le_of_ble_eq_true rfl) rfl rfl rfl ?_
    refine J_aload_n hC dX11_refuses_16 0 rfl rfl ?_
    refine J_get (v := .int k) hC wu_X11 rfl dX11_refuses_17 0 8 (by decide) wf_X11_66 rfl rfl ?_
    refine J_if_eq (tgt := 27) hC dX11_refuses_20 (by decide) (fun (c_20 : k = 0) => ?_) (fun (c_20 : ¬ k = 0) => ?_)
    · exact absurd c_20 hk
    · refine J_iconst (v := 1) hC dX11_refuses_23 rfl ?_
      refine J_goto (tgt := 28) hC dX11_refuses_24 (by decide) ?_
      refine J_iret hC hR dX11_refuses_28 rfl (us M 8 2 k) ?_ ?_ (by decide) (by decide)
      · exact ⟨trivial, rfl, rfl⟩
      · rfl

set_option maxRecDepth 100000 in
set_option maxHeartbeats 4000000 in
theorem c_X11_noNumber (l : Launch) (G : gT) (m : Nat → Nat) (M : CT) (v : Int32) (lo : Int32) (hi : Int32) : MI l yX11_noNumber cX11_noNumber 4 (some .boolean) { frames := 1, cells := 0, slots := 0, locals := 22 } [.ref (m 0), .int v, .int lo, .int hi] G (mdW G m M) (fun r (u : CT) => ((¬ v < lo ∧ ¬ hi < v) ∧ 0 = r ∧ (us M 8 2 0) = u) ∨ ((¬ (¬ v < lo ∧ ¬ hi < v)) ∧ 1 = r ∧ (us M 8 2 1) = u)) (fun u => mdW G m u) := by
  refine jm_i (own := RX11) (by decide) rfl (Nat.le_of_ble_eq_true rfl) (fun x hl hC hR hN => ?_)
  subst hl
  refine J_aload_n hC dX11_noNumber_0 0 rfl rfl ?_
  refine J_iconst (v := 0) hC dX11_noNumber_1 rfl ?_
  refine J_put (ws' := mdW G m (us M 8 2 0)) hC wu_X11 rfl tyX11_ok nmX11 dX11_noNumber_2 0 8 (by decide) wf_X11_66 rfl rfl (Nat.le_of_ble_eq_true rfl) rfl rfl rfl ?_
  refine J_aload_n hC dX11_noNumber_5 0 rfl rfl ?_
  refine J_iload_n hC dX11_noNumber_6 1 rfl rfl ?_
  refine J_iload_n hC dX11_noNumber_7 2 rfl rfl ?_
  refine J_iload_n hC dX11_noNumber_8 3 rfl rfl ?_
  refine J_callSi hC dX11_noNumber_9 wl_X11_156 wi_X11 yi_X11_isBetween (c_X11_isBetween _ G (mdW G m (us M 8 2 0)) v lo hi) rfl rfl ⟨Nat.le_of_ble_eq_true rfl, Nat.le_of_ble_eq_true rfl⟩ (Nat.le_of_ble_eq_true rfl) (Nat.le_of_ble_eq_true rfl) (Nat.le_of_ble_eq_true rfl) (fun r u h_9 => ?_)
  rcases h_9 with ⟨rfl, c_9⟩ | ⟨rfl, c_9⟩
  · refine J_if_ne (tgt := 19) hC dX11_noNumber_12 (by decide) (fun _ => ?_) (fun c => absurd c (by decide))
    refine J_iconst (v := 0) hC dX11_noNumber_19 rfl ?_
    refine J_iconst (v := 1) hC dX11_noNumber_20 rfl ?_
    refine J_callVi hC dX11_noNumber_21 wl_X11_141 yi_X11_refuses (c_X11_refuses_0 _ G m (us M 8 2 0) 1 (by first | assumption | rfl)) rfl rfl 0 11 rfl rfl ⟨Nat.le_of_ble_eq_true rfl, Nat.le_of_ble_eq_true rfl⟩ (Nat.le_of_ble_eq_true rfl) (Nat.le_of_ble_eq_true rfl) (Nat.le_of_ble_eq_true rfl) (fun r u h_21 => ?_)
    obtain ⟨c_21, rfl, rfl⟩ := h_21
    refine J_iret hC hR dX11_noNumber_24 rfl (us M 8 2 0) ?_ ?_ (by decide) (by decide)
    · exact Or.inl ⟨c_9, rfl, rfl⟩
    · rfl
  · refine J_if_ne (tgt := 19) hC dX11_noNumber_12 (by decide) (fun c => absurd (by decide) c) (fun _ => ?_)
    refine J_iconst (v := 1) hC dX11_noNumber_15 rfl ?_
    refine J_goto (tgt := 20) hC dX11_noNumber_16 (by decide) ?_
    refine J_iconst (v := 1) hC dX11_noNumber_20 rfl ?_
    refine J_callVi hC dX11_noNumber_21 wl_X11_141 yi_X11_refuses (c_X11_refuses_1 _ G m (us M 8 2 0) 1 (by first | assumption | rfl) (by decide)) rfl rfl 0 11 rfl rfl ⟨Nat.le_of_ble_eq_true rfl, Nat.le_of_ble_eq_true rfl⟩ (Nat.le_of_ble_eq_true rfl) (Nat.le_of_ble_eq_true rfl) (Nat.le_of_ble_eq_true rfl) (fun r u h_21 => ?_)
    obtain ⟨c_21, rfl, rfl⟩ := h_21
    refine J_iret hC hR dX11_noNumber_24 rfl (us M 8 2 1) ?_ ?_ (by decide) (by decide)
    · exact Or.inr (⟨c_9, rfl, rfl⟩)
    · rfl

set_option maxRecDepth 100000 in
set_option maxHeartbeats 4000000 in
theorem c_X11_out (l : Launch) (G : gT) (m : Nat → Nat) (M : CT) (v : Int32) (lo : Int32) (hi : Int32) (h0 : M 8 2 = 0) : MI l yX11_out cX11_out 4 (some .boolean) { frames := 1, cells := 0, slots := 0, locals := 22 } [.ref (m 0), .int v, .int lo, .int hi] G (mdW G m M) (fun r (u : CT) => ((¬ v < lo ∧ ¬ hi < v) ∧ 0 = r ∧ M = u) ∨ ((¬ (¬ v < lo ∧ ¬ hi < v)) ∧ 1 = r ∧ (us M 8 2 2) = u)) (fun u => mdW G m u) := by
  refine jm_i (own := RX11) (by decide) rfl (Nat.le_of_ble_eq_true rfl) (fun x hl hC hR hN => ?_)
  subst hl
  refine J_aload_n hC dX11_out_0 0 rfl rfl ?_
  refine J_iload_n hC dX11_out_1 1 rfl rfl ?_
  refine J_iload_n hC dX11_out_2 2 rfl rfl ?_
  refine J_iload_n hC dX11_out_3 3 rfl rfl ?_
  refine J_callSi hC dX11_out_4 wl_X11_156 wi_X11 yi_X11_isBetween (c_X11_isBetween _ G (mdW G m M) v lo hi) rfl rfl ⟨Nat.le_of_ble_eq_true rfl, Nat.le_of_ble_eq_true rfl⟩ (Nat.le_of_ble_eq_true rfl) (Nat.le_of_ble_eq_true rfl) (Nat.le_of_ble_eq_true rfl) (fun r u h_4 => ?_)
  rcases h_4 with ⟨rfl, c_4⟩ | ⟨rfl, c_4⟩
  · refine J_if_ne (tgt := 14) hC dX11_out_7 (by decide) (fun _ => ?_) (fun c => absurd c (by decide))
    refine J_iconst (v := 0) hC dX11_out_14 rfl ?_
    refine J_iconst (v := 2) hC dX11_out_15 rfl ?_
    refine J_callVi hC dX11_out_16 wl_X11_141 yi_X11_refuses (c_X11_refuses_0 _ G m M 2 (by first | assumption | rfl)) rfl rfl 0 11 rfl rfl ⟨Nat.le_of_ble_eq_true rfl, Nat.le_of_ble_eq_true rfl⟩ (Nat.le_of_ble_eq_true rfl) (Nat.le_of_ble_eq_true rfl) (Nat.le_of_ble_eq_true rfl) (fun r u h_16 => ?_)
    obtain ⟨c_16, rfl, rfl⟩ := h_16
    refine J_iret hC hR dX11_out_19 rfl M ?_ ?_ (by decide) (by decide)
    · exact Or.inl ⟨c_4, rfl, rfl⟩
    · rfl
  · refine J_if_ne (tgt := 14) hC dX11_out_7 (by decide) (fun c => absurd (by decide) c) (fun _ => ?_)
    refine J_iconst (v := 1) hC dX11_out_10 rfl ?_
    refine J_goto (tgt := 15) hC dX11_out_11 (by decide) ?_
    refine J_iconst (v := 2) hC dX11_out_15 rfl ?_
    refine J_callVi hC dX11_out_16 wl_X11_141 yi_X11_refuses (c_X11_refuses_1 _ G m M 2 (by first | assumption | rfl) (by decide)) rfl rfl 0 11 rfl rfl ⟨Nat.le_of_ble_eq_true rfl, Nat.le_of_ble_eq_true rfl⟩ (Nat.le_of_ble_eq_true rfl) (Nat.le_of_ble_eq_true rfl) (Nat.le_of_ble_eq_true rfl) (fun r u h_16 => ?_)
    obtain ⟨c_16, rfl, rfl⟩ := h_16
    refine J_iret hC hR dX11_out_19 rfl (us M 8 2 2) ?_ ?_ (by decide) (by decide)
    · exact Or.inr (⟨c_4, rfl, rfl⟩)
    · rfl

set_option maxRecDepth 100000 in
set_option maxHeartbeats 4000000 in
theorem c_X11_noVillage (l : Launch) (G : gT) (m : Nat → Nat) (M : CT) (vc : Nat) (v : Int32) (hvc : M 0 6 = nI vc) (bvc : vc ≤ 6) : MI l yX11_noVillage cX11_noVillage 2 (some .boolean) { frames := 2, cells := 0, slots := 0, locals := 45 } [.ref (m 0), .int v] G (mdW G m M) (fun r (u : CT) => ((inr v vc) ∧ 0 = r ∧ (us M 8 2 0) = u) ∨ ((¬ inr v vc) ∧ 1 = r ∧ (us M 8 2 1) = u)) (fun u => mdW G m u) := by
  refine jm_i (own := RX11) (by decide) rfl (Nat.le_of_ble_eq_true rfl) (fun x hl hC hR hN => ?_)
  subst hl
  refine J_aload_n hC dX11_noVillage_0 0 rfl rfl ?_
  refine J_iload_n hC dX11_noVillage_1 1 rfl rfl ?_
  refine J_iconst (v := 0) hC dX11_noVillage_2 rfl ?_
  refine J_aload_n hC dX11_noVillage_3 0 rfl rfl ?_
  refine J_get (v := .ref (m 1)) hC wu_X11 rfl dX11_noVillage_4 0 0 (by decide) wf_X11_7 rfl rfl ?_
  refine J_bipush (v := 6) hC dX11_noVillage_7 (by decide +kernel) ?_
  refine J_iald (i := 6) (v := M 0 6) hC dX11_noVillage_9 1 rfl (by omega) (by decide) rfl ?_
  refine J_topi hvc ?_
  refine J_iconst (v := 1) hC dX11_noVillage_10 rfl ?_
  refine J_isub (v := (nI vc) - 1) hC dX11_noVillage_11 rfl ?_
  refine J_callVi hC dX11_noVillage_12 wl_X11_149 yi_X11_noNumber (c_X11_noNumber _ G m M v 0 ((nI vc) - 1)) rfl rfl 0 11 rfl rfl ⟨Nat.le_of_ble_eq_true rfl, Nat.le_of_ble_eq_true rfl⟩ (Nat.le_of_ble_eq_true rfl) (Nat.le_of_ble_eq_true rfl) (Nat.le_of_ble_eq_true rfl) (fun r u h_12 => ?_)
  rcases h_12 with ⟨c_12, rfl, rfl⟩ | ⟨c_12, rfl, rfl⟩
  · refine J_iret hC hR dX11_noVillage_15 rfl (us M 8 2 0) ?_ ?_ (by decide) (by decide)
    · exact Or.inl ⟨(inr_m1 (n := vc) (by omega)).mp c_12, rfl, rfl⟩
    · rfl
  · refine J_iret hC hR dX11_noVillage_15 rfl (us M 8 2 1) ?_ ?_ (by decide) (by decide)
    · exact Or.inr (⟨mt (inr_m1 (n := vc) (by omega)).mpr c_12, rfl, rfl⟩)
    · rfl

set_option maxRecDepth 100000 in
set_option maxHeartbeats 4000000 in
theorem c_X11_noFair (l : Launch) (G : gT) (m : Nat → Nat) (M : CT) (fc : Nat) (v : Int32) (hfc : M 0 7 = nI fc) (bfc : fc ≤ 6) : MI l yX11_noFair cX11_noFair 2 (some .boolean) { frames := 2, cells := 0, slots := 0, locals := 45 } [.ref (m 0), .int v] G (mdW G m M) (fun r (u : CT) => ((inr v fc) ∧ 0 = r ∧ (us M 8 2 0) = u) ∨ ((¬ inr v fc) ∧ 1 = r ∧ (us M 8 2 1) = u)) (fun u => mdW G m u) := by
  refine jm_i (own := RX11) (by decide) rfl (Nat.le_of_ble_eq_true rfl) (fun x hl hC hR hN => ?_)
  subst hl
  refine J_aload_n hC dX11_noFair_0 0 rfl rfl ?_
  refine J_iload_n hC dX11_noFair_1 1 rfl rfl ?_
  refine J_iconst (v := 0) hC dX11_noFair_2 rfl ?_
  refine J_aload_n hC dX11_noFair_3 0 rfl rfl ?_
  refine J_get (v := .ref (m 1)) hC wu_X11 rfl dX11_noFair_4 0 0 (by decide) wf_X11_7 rfl rfl ?_
  refine J_bipush (v := 7) hC dX11_noFair_7 (by decide +kernel) ?_
  refine J_iald (i := 7) (v := M 0 7) hC dX11_noFair_9 1 rfl (by omega) (by decide) rfl ?_
  refine J_topi hfc ?_
  refine J_iconst (v := 1) hC dX11_noFair_10 rfl ?_
  refine J_isub (v := (nI fc) - 1) hC dX11_noFair_11 rfl ?_
  refine J_callVi hC dX11_noFair_12 wl_X11_149 yi_X11_noNumber (c_X11_noNumber _ G m M v 0 ((nI fc) - 1)) rfl rfl 0 11 rfl rfl ⟨Nat.le_of_ble_eq_true rfl, Nat.le_of_ble_eq_true rfl⟩ (Nat.le_of_ble_eq_true rfl) (Nat.le_of_ble_eq_true rfl) (Nat.le_of_ble_eq_true rfl) (fun r u h_12 => ?_)
  rcases h_12 with ⟨c_12, rfl, rfl⟩ | ⟨c_12, rfl, rfl⟩
  · refine J_iret hC hR dX11_noFair_15 rfl (us M 8 2 0) ?_ ?_ (by decide) (by decide)
    · exact Or.inl ⟨(inr_m1 (n := fc) (by omega)).mp c_12, rfl, rfl⟩
    · rfl
  · refine J_iret hC hR dX11_noFair_15 rfl (us M 8 2 1) ?_ ?_ (by decide) (by decide)
    · exact Or.inr (⟨mt (inr_m1 (n := fc) (by omega)).mpr c_12, rfl, rfl⟩)
    · rfl

set_option maxRecDepth 100000 in
set_option maxHeartbeats 4000000 in
theorem c_X11_noWeather (l : Launch) (G : gT) (m : Nat → Nat) (M : CT) (v : Int32) : MI l yX11_noWeather cX11_noWeather 2 (some .boolean) { frames := 2, cells := 0, slots := 0, locals := 45 } [.ref (m 0), .int v] G (mdW G m M) (fun r (u : CT) => ((inr v 3) ∧ 0 = r ∧ (us M 8 2 0) = u) ∨ ((¬ inr v 3) ∧ 1 = r ∧ (us M 8 2 1) = u)) (fun u => mdW G m u) := by
  refine jm_i (own := RX11) (by decide) rfl (Nat.le_of_ble_eq_true rfl) (fun x hl hC hR hN => ?_)
  subst hl
  refine J_aload_n hC dX11_noWeather_0 0 rfl rfl ?_
  refine J_iload_n hC dX11_noWeather_1 1 rfl rfl ?_
  refine J_iconst (v := 0) hC dX11_noWeather_2 rfl ?_
  refine J_iconst (v := 2) hC dX11_noWeather_3 rfl ?_
  refine J_callVi hC dX11_noWeather_4 wl_X11_149 yi_X11_noNumber (c_X11_noNumber _ G m M v 0 2) rfl rfl 0 11 rfl rfl ⟨Nat.le_of_ble_eq_true rfl, Nat.le_of_ble_eq_true rfl⟩ (Nat.le_of_ble_eq_true rfl) (Nat.le_of_ble_eq_true rfl) (Nat.le_of_ble_eq_true rfl) (fun r u h_4 => ?_)
  rcases h_4 with ⟨c_4, rfl, rfl⟩ | ⟨c_4, rfl, rfl⟩
  · refine J_iret hC hR dX11_noWeather_7 rfl (us M 8 2 0) ?_ ?_ (by decide) (by decide)
    · exact Or.inl ⟨(inr_le (n := 2) (by omega)).mp c_4, rfl, rfl⟩
    · rfl
  · refine J_iret hC hR dX11_noWeather_7 rfl (us M 8 2 1) ?_ ?_ (by decide) (by decide)
    · exact Or.inr (⟨mt (inr_le (n := 2) (by omega)).mpr c_4, rfl, rfl⟩)
    · rfl

set_option maxRecDepth 100000 in
set_option maxHeartbeats 4000000 in
theorem c_X11_noPage (l : Launch) (G : gT) (m : Nat → Nat) (M : CT) (bc : Nat) (v : Int32) (hbc : M 0 8 = nI bc) (bbc : bc ≤ 30) : MI l yX11_noPage cX11_noPage 2 (some .boolean) { frames := 2, cells := 0, slots := 0, locals := 45 } [.ref (m 0), .int v] G (mdW G m M) (fun r (u : CT) => ((inr v ((bc + 4 - 1) / 4)) ∧ 0 = r ∧ (us M 8 2 0) = u) ∨ ((¬ inr v ((bc + 4 - 1) / 4)) ∧ 1 = r ∧ (us M 8 2 1) = u)) (fun u => mdW G m u) := by
  refine jm_i (own := RX11) (by decide) rfl (Nat.le_of_ble_eq_true rfl) (fun x hl hC hR hN => ?_)
  subst hl
  refine J_aload_n hC dX11_noPage_0 0 rfl rfl ?_
  refine J_iload_n hC dX11_noPage_1 1 rfl rfl ?_
  refine J_iconst (v := 0) hC dX11_noPage_2 rfl ?_
  refine J_aload_n hC dX11_noPage_3 0 rfl rfl ?_
  refine J_get (v := .ref (m 1)) hC wu_X11 rfl dX11_noPage_4 0 0 (by decide) wf_X11_7 rfl rfl ?_
  refine J_callSi hC dX11_noPage_7 wl_X11_236 wi_X11 yi_X11_pages (mdl0_ir (c_X11_pages _ G (m 1) (M 0) bc (hbc) (by omega))) rfl rfl ⟨Nat.le_of_ble_eq_true rfl, Nat.le_of_ble_eq_true rfl⟩ (Nat.le_of_ble_eq_true rfl) (Nat.le_of_ble_eq_true rfl) (Nat.le_of_ble_eq_true rfl) (fun r u h_7 => ?_)
  subst h_7
  refine J_iconst (v := 1) hC dX11_noPage_10 rfl ?_
  refine J_isub (v := (nI ((bc + 4 - 1) / 4)) - 1) hC dX11_noPage_11 rfl ?_
  refine J_callVi hC dX11_noPage_12 wl_X11_149 yi_X11_noNumber (c_X11_noNumber _ G m M v 0 ((nI ((bc + 4 - 1) / 4)) - 1)) rfl rfl 0 11 rfl rfl ⟨Nat.le_of_ble_eq_true rfl, Nat.le_of_ble_eq_true rfl⟩ (Nat.le_of_ble_eq_true rfl) (Nat.le_of_ble_eq_true rfl) (Nat.le_of_ble_eq_true rfl) (fun r u h_12 => ?_)
  rcases h_12 with ⟨c_12, rfl, rfl⟩ | ⟨c_12, rfl, rfl⟩
  · refine J_iret hC hR dX11_noPage_15 rfl (us M 8 2 0) ?_ ?_ (by decide) (by decide)
    · exact Or.inl ⟨(inr_m1 (n := ((bc + 4 - 1) / 4)) (by omega)).mp c_12, rfl, rfl⟩
    · rfl
  · refine J_iret hC hR dX11_noPage_15 rfl (us M 8 2 1) ?_ ?_ (by decide) (by decide)
    · exact Or.inr (⟨mt (inr_m1 (n := ((bc + 4 - 1) / 4)) (by omega)).mpr c_12, rfl, rfl⟩)
    · rfl

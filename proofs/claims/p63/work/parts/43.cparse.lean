set_option maxRecDepth 100000 in
set_option maxHeartbeats 4000000 in
theorem c_X5_fail (l : Launch) (G : gT) (p s : Nat) (b a : Nat → Nat) (f : RT) (q : RT × Nat) (t : PS CT) (v : Int32) (w : Int32) : MI l yX5_fail cX5_fail 2 (some .boolean) { frames := 0, cells := 0, slots := 0, locals := 0 } [.ref (p), .int w] G (prW G p s b a f q t v) (fun r (_ : Unit) => r = 0) (fun _ => prW G p s b a f q (t.1, t.2.1, w, nI (tS f q.2 t.2.1)) v) := by
  refine jm_i (own := RX5) (by decide) rfl (Nat.le_of_ble_eq_true rfl) (fun x hl hC hR hN => ?_)
  subst hl
  refine J_aload_n hC dX5_fail_0 0 rfl rfl ?_
  refine J_iload_n hC dX5_fail_1 1 rfl rfl ?_
  refine J_put (ws' := prW G p s b a f q (t.1, t.2.1, w, t.2.2.2) v) hC wu_X5 rfl tyX5_ok nmX5 dX5_fail_2 0 2 (by decide) wf_X5_9 rfl rfl (Nat.le_of_ble_eq_true rfl) rfl rfl rfl ?_
  refine J_aload_n hC dX5_fail_5 0 rfl rfl ?_
  refine J_aload_n hC dX5_fail_6 0 rfl rfl ?_
  refine J_get (v := .ref s) hC wu_X5 rfl dX5_fail_7 0 0 (by decide) wf_X5_23 rfl rfl ?_
  refine J_get (v := .int (nI (tS f q.2 t.2.1))) hC wu_X6 rfl dX5_fail_10 1 2 (by decide) wf_X5_187 rfl rfl ?_
  refine J_put (ws' := prW G p s b a f q (t.1, t.2.1, w, nI (tS f q.2 t.2.1)) v) hC wu_X5 rfl tyX5_ok nmX5 dX5_fail_13 0 3 (by decide) wf_X5_15 rfl rfl (Nat.le_of_ble_eq_true rfl) rfl rfl rfl ?_
  refine J_iconst (v := 0) hC dX5_fail_16 rfl ?_
  refine J_iret hC hR dX5_fail_17 rfl () ?_ ?_ (by decide) (by decide)
  · rfl
  · rfl

set_option maxRecDepth 100000 in
set_option maxHeartbeats 4000000 in
theorem c_X5_readNumber (l : Launch) (G : gT) (p s : Nat) (b a : Nat → Nat) (f : RT) (q : RT × Nat) (t : PS CT) (v : Int32) (lo : Int32) (hi : Int32) (hf : ∀ j, j < q.2 → q.1 j &&& 255 = f j) (hq : q.2 ≤ 600) (ht : t.2.1 ≤ q.2) (hc : t.2.2.1 = 0) (hv : NU f q.2 t.2.1 v) (hI : CI t.1) : MI l yX5_readNumber cX5_readNumber 3 (some .boolean) { frames := 3, cells := 0, slots := 0, locals := 65 } [.ref (p), .int lo, .int hi] G (prW G p s b a f q t v) (fun r (u : Int32) => ((r = 1 ∧ (c_num f q.2 t lo hi).2.2.1 = 0) ∨ (r = 0 ∧ ¬ (c_num f q.2 t lo hi).2.2.1 = 0)) ∧ NU f q.2 (c_num f q.2 t lo hi).2.1 u) (fun u => prW G p s b a f q (c_num f q.2 t lo hi) u) := by
  refine jm_i (own := RX5) (by decide) rfl (Nat.le_of_ble_eq_true rfl) (fun x hl hC hR hN => ?_)
  subst hl
  have hb0 := tok_b f ht hq
  refine J_aload_n hC dX5_readNumber_0 0 rfl rfl ?_
  refine J_get (v := .ref s) hC wu_X5 rfl dX5_readNumber_1 0 0 (by decide) wf_X5_23 rfl rfl ?_
  refine J_callVv hC dX5_readNumber_4 wl_X5_35 yi_X6_next (cons_v (app_v (stW G a t.1) (c_X6_next _ G s b f q (kC (tK f q.2 t.2.1)) (nI (tS f q.2 t.2.1)) (tE f q.2 t.2.1) v hf hq (tE_le f q.2 _ ht).2))) rfl rfl 1 6 rfl rfl ⟨Nat.le_of_ble_eq_true rfl, Nat.le_of_ble_eq_true rfl⟩ (Nat.le_of_ble_eq_true rfl) (Nat.le_of_ble_eq_true rfl) (Nat.le_of_ble_eq_true rfl) (fun v1 hv1 => ?_)
  obtain ⟨t1, d1⟩ : ∃ z9, z9 = p_nxt f q.2 t := ⟨_, rfl⟩
  have dd1 := d1.trans (p_nxt_pos hc)
  have hc1 : t1.2.2.1 = 0 := by rw [dd1]; exact hc
  have ht1 : t1.2.1 ≤ q.2 := by rw [d1]; exact PE_nxt ht
  have hI1 : CI t1.1 := by rw [dd1]; exact hI
  have hb1 := tok_b f ht1 hq
  rw [show tE f q.2 t.2.1 = t1.2.1 from by rw [dd1]] at hv1
  refine J_wq (show _ = prW G p s b a f q t1 v1 from by rw [dd1]; rfl) ?_
  refine J_aload_n hC dX5_readNumber_7 0 rfl rfl ?_
  refine J_get (v := .ref s) hC wu_X5 rfl dX5_readNumber_8 0 0 (by decide) wf_X5_23 rfl rfl ?_
  refine J_get (v := .int (kC (tK f q.2 t1.2.1))) hC wu_X6 rfl dX5_readNumber_11 1 1 (by decide) wf_X5_40 rfl rfl ?_
  refine J_iconst (v := 2) hC dX5_readNumber_14 rfl ?_
  refine J_ic_eq (tgt := 24) hC dX5_readNumber_15 (by decide) (fun (c_15 : (kC (tK f q.2 t1.2.1)) = 2) => ?_) (fun (c_15 : ¬ (kC (tK f q.2 t1.2.1)) = 2) => ?_)
  · refine J_aload_n hC dX5_readNumber_24 0 rfl rfl ?_
    refine J_get (v := .ref s) hC wu_X5 rfl dX5_readNumber_25 0 0 (by decide) wf_X5_23 rfl rfl ?_
    refine J_get (v := .int v1) hC wu_X6 rfl dX5_readNumber_28 1 4 (by decide) wf_X5_66 rfl rfl ?_
    refine J_iload_n hC dX5_readNumber_31 1 rfl rfl ?_
    refine J_iload_n hC dX5_readNumber_32 2 rfl rfl ?_
    refine J_callSNi hC dX5_readNumber_33 wln_X5_180 yi_X10_isBetween (c_X10_isBetween _ G (prW G p s b a f q t1 v1) v1 lo hi) rfl rfl ⟨Nat.le_of_ble_eq_true rfl, Nat.le_of_ble_eq_true rfl⟩ (Nat.le_of_ble_eq_true rfl) (Nat.le_of_ble_eq_true rfl) (Nat.le_of_ble_eq_true rfl) (fun r u h_33 => ?_)
    rcases h_33 with ⟨rfl, c_33⟩ | ⟨rfl, c_33⟩
    · refine J_if_ne (tgt := 47) hC dX5_readNumber_36 (by decide) (fun _ => ?_) (fun c => absurd c (by decide))
      refine J_iconst (v := 1) hC dX5_readNumber_47 rfl ?_
      refine J_goto (tgt := 52) hC dX5_readNumber_48 (by decide) ?_
      refine J_iret hC hR dX5_readNumber_52 rfl v1 ?_ ?_ (by decide) (by decide)
      · have eS : c_num f q.2 t lo hi = t1 := by rw [c_num, ← d1, ← hv1 ((kC_2 (tK_le3 f q.2 t1.2.1)).mp c_15), p_lkG, p_tk, p_chk_t ((kC_2 (tK_le3 f q.2 t1.2.1)).mp c_15), p_chk_t c_33]
        rw [eS]
        exact ⟨Or.inl ⟨rfl, hc1⟩, hv1⟩
      · have eS : c_num f q.2 t lo hi = t1 := by rw [c_num, ← d1, ← hv1 ((kC_2 (tK_le3 f q.2 t1.2.1)).mp c_15), p_lkG, p_tk, p_chk_t ((kC_2 (tK_le3 f q.2 t1.2.1)).mp c_15), p_chk_t c_33]
        rw [eS]
    · refine J_if_ne (tgt := 47) hC dX5_readNumber_36 (by decide) (fun c => absurd (by decide) c) (fun _ => ?_)
      refine J_aload_n hC dX5_readNumber_39 0 rfl rfl ?_
      refine J_iconst (v := 2) hC dX5_readNumber_40 rfl ?_
      refine J_callVi hC dX5_readNumber_41 wl_X5_52 yi_X5_fail (c_X5_fail _ G p s b a f q t1 v1 2) rfl rfl 0 5 rfl rfl ⟨Nat.le_of_ble_eq_true rfl, Nat.le_of_ble_eq_true rfl⟩ (Nat.le_of_ble_eq_true rfl) (Nat.le_of_ble_eq_true rfl) (Nat.le_of_ble_eq_true rfl) (fun r u h_41 => ?_)
      subst h_41
      obtain ⟨t2, d2⟩ : ∃ z9, z9 = (t1.1, t1.2.1, (2 : Int32), nI (tS f q.2 t1.2.1)) := ⟨_, rfl⟩
      have hz2 : ¬ t2.2.2.1 = 0 := by rw [d2]; show ¬ (2 : Int32) = 0; decide
      have hv2 : NU f q.2 t2.2.1 v1 := by rw [d2]; exact hv1
      refine J_wq (congrArg (fun z9 => prW G p s b a f q z9 v1) d2.symm) ?_
      refine J_if_eq (tgt := 51) hC dX5_readNumber_44 (by decide) (fun _ => ?_) (fun c => absurd (by decide) c)
      refine J_iconst (v := 0) hC dX5_readNumber_51 rfl ?_
      refine J_iret hC hR dX5_readNumber_52 rfl v1 ?_ ?_ (by decide) (by decide)
      · have eS : c_num f q.2 t lo hi = t2 := by rw [c_num, ← d1, ← hv1 ((kC_2 (tK_le3 f q.2 t1.2.1)).mp c_15), p_lkG, p_tk, p_chk_t ((kC_2 (tK_le3 f q.2 t1.2.1)).mp c_15), p_chk_f hc1 c_33, d2]
        rw [eS]
        exact ⟨Or.inr ⟨rfl, hz2⟩, hv2⟩
      · have eS : c_num f q.2 t lo hi = t2 := by rw [c_num, ← d1, ← hv1 ((kC_2 (tK_le3 f q.2 t1.2.1)).mp c_15), p_lkG, p_tk, p_chk_t ((kC_2 (tK_le3 f q.2 t1.2.1)).mp c_15), p_chk_f hc1 c_33, d2]
        rw [eS]
  · refine J_aload_n hC dX5_readNumber_18 0 rfl rfl ?_
    refine J_iconst (v := 1) hC dX5_readNumber_19 rfl ?_
    refine J_callVi hC dX5_readNumber_20 wl_X5_52 yi_X5_fail (c_X5_fail _ G p s b a f q t1 v1 1) rfl rfl 0 5 rfl rfl ⟨Nat.le_of_ble_eq_true rfl, Nat.le_of_ble_eq_true rfl⟩ (Nat.le_of_ble_eq_true rfl) (Nat.le_of_ble_eq_true rfl) (Nat.le_of_ble_eq_true rfl) (fun r u h_20 => ?_)
    subst h_20
    obtain ⟨t2, d2⟩ : ∃ z9, z9 = (t1.1, t1.2.1, (1 : Int32), nI (tS f q.2 t1.2.1)) := ⟨_, rfl⟩
    have hz2 : ¬ t2.2.2.1 = 0 := by rw [d2]; show ¬ (1 : Int32) = 0; decide
    have hv2 : NU f q.2 t2.2.1 v1 := by rw [d2]; exact hv1
    refine J_wq (congrArg (fun z9 => prW G p s b a f q z9 v1) d2.symm) ?_
    refine J_iret hC hR dX5_readNumber_23 rfl v1 ?_ ?_ (by decide) (by decide)
    · have eS : c_num f q.2 t lo hi = t2 := by rw [c_num, ← d1, p_lkG, p_tk, p_chk_f hc1 (fun h => c_15 ((kC_2 (tK_le3 f q.2 t1.2.1)).mpr h)), p_chk_z (by show ¬ (1 : Int32) = 0; decide), d2]
      rw [eS]
      exact ⟨Or.inr ⟨rfl, hz2⟩, hv2⟩
    · have eS : c_num f q.2 t lo hi = t2 := by rw [c_num, ← d1, p_lkG, p_tk, p_chk_f hc1 (fun h => c_15 ((kC_2 (tK_le3 f q.2 t1.2.1)).mpr h)), p_chk_z (by show ¬ (1 : Int32) = 0; decide), d2]
      rw [eS]

set_option maxRecDepth 100000 in
set_option maxHeartbeats 4000000 in
theorem c_X5_readSemicolon (l : Launch) (G : gT) (p s : Nat) (b a : Nat → Nat) (f : RT) (q : RT × Nat) (t : PS CT) (v : Int32) (hf : ∀ j, j < q.2 → q.1 j &&& 255 = f j) (hq : q.2 ≤ 600) (ht : t.2.1 ≤ q.2) (hc : t.2.2.1 = 0) (hv : NU f q.2 t.2.1 v) (hI : CI t.1) : MI l yX5_readSemicolon cX5_readSemicolon 1 (some .boolean) { frames := 3, cells := 0, slots := 0, locals := 65 } [.ref (p)] G (prW G p s b a f q t v) (fun r (u : Int32) => ((r = 1 ∧ (c_sem f q.2 t).2.2.1 = 0) ∨ (r = 0 ∧ ¬ (c_sem f q.2 t).2.2.1 = 0)) ∧ NU f q.2 (c_sem f q.2 t).2.1 u) (fun u => prW G p s b a f q (c_sem f q.2 t) u) := by
  refine jm_i (own := RX5) (by decide) rfl (Nat.le_of_ble_eq_true rfl) (fun x hl hC hR hN => ?_)
  subst hl
  have hb0 := tok_b f ht hq
  refine J_aload_n hC dX5_readSemicolon_0 0 rfl rfl ?_
  refine J_get (v := .ref s) hC wu_X5 rfl dX5_readSemicolon_1 0 0 (by decide) wf_X5_23 rfl rfl ?_
  refine J_callVv hC dX5_readSemicolon_4 wl_X5_35 yi_X6_next (cons_v (app_v (stW G a t.1) (c_X6_next _ G s b f q (kC (tK f q.2 t.2.1)) (nI (tS f q.2 t.2.1)) (tE f q.2 t.2.1) v hf hq (tE_le f q.2 _ ht).2))) rfl rfl 1 6 rfl rfl ⟨Nat.le_of_ble_eq_true rfl, Nat.le_of_ble_eq_true rfl⟩ (Nat.le_of_ble_eq_true rfl) (Nat.le_of_ble_eq_true rfl) (Nat.le_of_ble_eq_true rfl) (fun v1 hv1 => ?_)
  obtain ⟨t1, d1⟩ : ∃ z9, z9 = p_nxt f q.2 t := ⟨_, rfl⟩
  have dd1 := d1.trans (p_nxt_pos hc)
  have hc1 : t1.2.2.1 = 0 := by rw [dd1]; exact hc
  have ht1 : t1.2.1 ≤ q.2 := by rw [d1]; exact PE_nxt ht
  have hI1 : CI t1.1 := by rw [dd1]; exact hI
  have hb1 := tok_b f ht1 hq
  rw [show tE f q.2 t.2.1 = t1.2.1 from by rw [dd1]] at hv1
  refine J_wq (show _ = prW G p s b a f q t1 v1 from by rw [dd1]; rfl) ?_
  refine J_aload_n hC dX5_readSemicolon_7 0 rfl rfl ?_
  refine J_get (v := .ref s) hC wu_X5 rfl dX5_readSemicolon_8 0 0 (by decide) wf_X5_23 rfl rfl ?_
  refine J_callVi hC dX5_readSemicolon_11 wl_X5_184 yi_X6_isSemicolon (cons_i (app_i (stW G a t1.1) (c_X6_isSemicolon _ G s b f q t1.2.1 v1 hf hq ht1))) rfl rfl 1 6 rfl rfl ⟨Nat.le_of_ble_eq_true rfl, Nat.le_of_ble_eq_true rfl⟩ (Nat.le_of_ble_eq_true rfl) (Nat.le_of_ble_eq_true rfl) (Nat.le_of_ble_eq_true rfl) (fun r u h_11 => ?_)
  refine J_wq (show _ = prW G p s b a f q t1 v1 from rfl) ?_
  rcases h_11 with ⟨rfl, c_11⟩ | ⟨rfl, c_11⟩
  · refine J_if_ne (tgt := 25) hC dX5_readSemicolon_14 (by decide) (fun _ => ?_) (fun c => absurd c (by decide))
    refine J_iconst (v := 1) hC dX5_readSemicolon_25 rfl ?_
    refine J_goto (tgt := 30) hC dX5_readSemicolon_26 (by decide) ?_
    refine J_iret hC hR dX5_readSemicolon_30 rfl v1 ?_ ?_ (by decide) (by decide)
    · have eS : c_sem f q.2 t = t1 := by rw [c_sem, ← d1, p_sc, p_chk_t c_11]
      rw [eS]
      exact ⟨Or.inl ⟨rfl, hc1⟩, hv1⟩
    · have eS : c_sem f q.2 t = t1 := by rw [c_sem, ← d1, p_sc, p_chk_t c_11]
      rw [eS]
  · refine J_if_ne (tgt := 25) hC dX5_readSemicolon_14 (by decide) (fun c => absurd (by decide) c) (fun _ => ?_)
    refine J_aload_n hC dX5_readSemicolon_17 0 rfl rfl ?_
    refine J_iconst (v := 1) hC dX5_readSemicolon_18 rfl ?_
    refine J_callVi hC dX5_readSemicolon_19 wl_X5_52 yi_X5_fail (c_X5_fail _ G p s b a f q t1 v1 1) rfl rfl 0 5 rfl rfl ⟨Nat.le_of_ble_eq_true rfl, Nat.le_of_ble_eq_true rfl⟩ (Nat.le_of_ble_eq_true rfl) (Nat.le_of_ble_eq_true rfl) (Nat.le_of_ble_eq_true rfl) (fun r u h_19 => ?_)
    subst h_19
    obtain ⟨t2, d2⟩ : ∃ z9, z9 = (t1.1, t1.2.1, (1 : Int32), nI (tS f q.2 t1.2.1)) := ⟨_, rfl⟩
    have hz2 : ¬ t2.2.2.1 = 0 := by rw [d2]; show ¬ (1 : Int32) = 0; decide
    have hv2 : NU f q.2 t2.2.1 v1 := by rw [d2]; exact hv1
    refine J_wq (congrArg (fun z9 => prW G p s b a f q z9 v1) d2.symm) ?_
    refine J_if_eq (tgt := 29) hC dX5_readSemicolon_22 (by decide) (fun _ => ?_) (fun c => absurd (by decide) c)
    refine J_iconst (v := 0) hC dX5_readSemicolon_29 rfl ?_
    refine J_iret hC hR dX5_readSemicolon_30 rfl v1 ?_ ?_ (by decide) (by decide)
    · have eS : c_sem f q.2 t = t2 := by rw [c_sem, ← d1, p_sc, p_chk_f hc1 c_11, d2]
      rw [eS]
      exact ⟨Or.inr ⟨rfl, hz2⟩, hv2⟩
    · have eS : c_sem f q.2 t = t2 := by rw [c_sem, ← d1, p_sc, p_chk_f hc1 c_11, d2]
      rw [eS]

set_option maxRecDepth 100000 in
set_option maxHeartbeats 4000000 in
theorem c_X5_readNewName (l : Launch) (G : gT) (p s : Nat) (b a : Nat → Nat) (f : RT) (q : RT × Nat) (t : PS CT) (v : Int32) (hf : ∀ j, j < q.2 → q.1 j &&& 255 = f j) (hq : q.2 ≤ 600) (ht : t.2.1 ≤ q.2) (hc : t.2.2.1 = 0) (hv : NU f q.2 t.2.1 v) (hI : CI t.1) : MI l yX5_readNewName cX5_readNewName 3 (some .boolean) { frames := 3, cells := 0, slots := 0, locals := 66 } [.ref (p)] G (prW G p s b a f q t v) (fun r (u : Int32) => ((r = 1 ∧ (c_nn f q.2 t).2.2.1 = 0) ∨ (r = 0 ∧ ¬ (c_nn f q.2 t).2.2.1 = 0)) ∧ NU f q.2 (c_nn f q.2 t).2.1 u) (fun u => prW G p s b a f q (c_nn f q.2 t) u) := by
  refine jm_i (own := RX5) (by decide) rfl (Nat.le_of_ble_eq_true rfl) (fun x hl hC hR hN => ?_)
  subst hl
  have hb0 := tok_b f ht hq
  refine J_aload_n hC dX5_readNewName_0 0 rfl rfl ?_
  refine J_get (v := .ref s) hC wu_X5 rfl dX5_readNewName_1 0 0 (by decide) wf_X5_23 rfl rfl ?_
  refine J_callVv hC dX5_readNewName_4 wl_X5_35 yi_X6_next (cons_v (app_v (stW G a t.1) (c_X6_next _ G s b f q (kC (tK f q.2 t.2.1)) (nI (tS f q.2 t.2.1)) (tE f q.2 t.2.1) v hf hq (tE_le f q.2 _ ht).2))) rfl rfl 1 6 rfl rfl ⟨Nat.le_of_ble_eq_true rfl, Nat.le_of_ble_eq_true rfl⟩ (Nat.le_of_ble_eq_true rfl) (Nat.le_of_ble_eq_true rfl) (Nat.le_of_ble_eq_true rfl) (fun v1 hv1 => ?_)
  obtain ⟨t1, d1⟩ : ∃ z9, z9 = p_nxt f q.2 t := ⟨_, rfl⟩
  have dd1 := d1.trans (p_nxt_pos hc)
  have hc1 : t1.2.2.1 = 0 := by rw [dd1]; exact hc
  have ht1 : t1.2.1 ≤ q.2 := by rw [d1]; exact PE_nxt ht
  have hI1 : CI t1.1 := by rw [dd1]; exact hI
  have hb1 := tok_b f ht1 hq
  rw [show tE f q.2 t.2.1 = t1.2.1 from by rw [dd1]] at hv1
  refine J_wq (show _ = prW G p s b a f q t1 v1 from by rw [dd1]; rfl) ?_
  refine J_aload_n hC dX5_readNewName_7 0 rfl rfl ?_
  refine J_get (v := .ref s) hC wu_X5 rfl dX5_readNewName_8 0 0 (by decide) wf_X5_23 rfl rfl ?_
  refine J_get (v := .int (kC (tK f q.2 t1.2.1))) hC wu_X6 rfl dX5_readNewName_11 1 1 (by decide) wf_X5_40 rfl rfl ?_
  refine J_iconst (v := 1) hC dX5_readNewName_14 rfl ?_
  refine J_ic_eq (tgt := 24) hC dX5_readNewName_15 (by decide) (fun (c_15 : (kC (tK f q.2 t1.2.1)) = 1) => ?_) (fun (c_15 : ¬ (kC (tK f q.2 t1.2.1)) = 1) => ?_)
  · refine J_aload_n hC dX5_readNewName_24 0 rfl rfl ?_
    refine J_get (v := .ref s) hC wu_X5 rfl dX5_readNewName_25 0 0 (by decide) wf_X5_23 rfl rfl ?_
    refine J_callVi hC dX5_readNewName_28 wl_X5_122 yi_X6_name (cons_i (app_i (stW G a t1.1) (c_X6_name _ G s b f q t1.2.1 v1 hf hq ht1))) rfl rfl 1 6 rfl rfl ⟨Nat.le_of_ble_eq_true rfl, Nat.le_of_ble_eq_true rfl⟩ (Nat.le_of_ble_eq_true rfl) (Nat.le_of_ble_eq_true rfl) (Nat.le_of_ble_eq_true rfl) (fun r u h_28 => ?_)
    subst h_28
    refine J_wq (show _ = prW G p s b a f q t1 v1 from rfl) ?_
    refine J_topi (show _ = c_nm f q.2 t1 from rfl) ?_
    refine J_istore_n hC [(1, .int (c_nm f q.2 t1)), (0, .ref p)] dX5_readNewName_31 rfl (by decide) rfl ?_
    refine J_iload_n hC dX5_readNewName_32 0 rfl rfl ?_
    refine J_if_ne (tgt := 42) hC dX5_readNewName_33 (by decide) (fun (c_33 : ¬ (c_nm f q.2 t1) = 0) => ?_) (fun (c_33 : (c_nm f q.2 t1) = 0) => ?_)
    · refine J_aload_n hC dX5_readNewName_42 1 rfl rfl ?_
      refine J_get (v := .ref (a 0)) hC wu_X5 rfl dX5_readNewName_43 0 1 (by decide) wf_X5_27 rfl rfl ?_
      refine J_get (v := .ref (a 1)) hC wu_X8 rfl dX5_readNewName_46 4 0 (by decide) wf_X5_110 rfl rfl ?_
      refine J_iload_n hC dX5_readNewName_49 0 rfl rfl ?_
      refine J_callVi hC dX5_readNewName_50 wl_X5_139 yi_X9_numberOf (cons_i (appr_i (scW G s b f q t1.2.1 v1) (c_X9_numberOf _ G a t1.1 (vcO t1.1) (c_nm f q.2 t1) hI1.2.1.1 (by have := hI1.2.1.2; omega)))) rfl rfl 5 9 rfl rfl ⟨Nat.le_of_ble_eq_true rfl, Nat.le_of_ble_eq_true rfl⟩ (Nat.le_of_ble_eq_true rfl) (Nat.le_of_ble_eq_true rfl) (Nat.le_of_ble_eq_true rfl) (fun r u h_50 => ?_)
      refine J_wq (show _ = prW G p s b a f q t1 v1 from rfl) ?_
      subst h_50
      refine J_iconst (v := (-1)) hC dX5_readNewName_53 rfl ?_
      refine J_ic_ne (tgt := 72) hC dX5_readNewName_54 (by decide) (fun (c_54 : ¬ (s_num (t1.1 0) (c_nm f q.2 t1) (vcO t1.1)) = (-1)) => ?_) (fun (c_54 : (s_num (t1.1 0) (c_nm f q.2 t1) (vcO t1.1)) = (-1)) => ?_)
      · refine J_iconst (v := 1) hC dX5_readNewName_72 rfl ?_
        refine J_goto (tgt := 77) hC dX5_readNewName_73 (by decide) ?_
        refine J_istore_n hC [(2, .int 1), (1, .int (c_nm f q.2 t1)), (0, .ref p)] dX5_readNewName_77 rfl (by decide) rfl ?_
        refine J_iload_n hC dX5_readNewName_78 0 rfl rfl ?_
        refine J_if_eq (tgt := 90) hC dX5_readNewName_79 (by decide) (fun c => absurd c (by decide)) (fun _ => ?_)
        refine J_aload_n hC dX5_readNewName_82 2 rfl rfl ?_
        refine J_iconst (v := 3) hC dX5_readNewName_83 rfl ?_
        refine J_callVi hC dX5_readNewName_84 wl_X5_52 yi_X5_fail (c_X5_fail _ G p s b a f q t1 v1 3) rfl rfl 0 5 rfl rfl ⟨Nat.le_of_ble_eq_true rfl, Nat.le_of_ble_eq_true rfl⟩ (Nat.le_of_ble_eq_true rfl) (Nat.le_of_ble_eq_true rfl) (Nat.le_of_ble_eq_true rfl) (fun r u h_84 => ?_)
        subst h_84
        obtain ⟨t2, d2⟩ : ∃ z9, z9 = (t1.1, t1.2.1, (3 : Int32), nI (tS f q.2 t1.2.1)) := ⟨_, rfl⟩
        have hz2 : ¬ t2.2.2.1 = 0 := by rw [d2]; show ¬ (3 : Int32) = 0; decide
        have hv2 : NU f q.2 t2.2.1 v1 := by rw [d2]; exact hv1
        refine J_wq (congrArg (fun z9 => prW G p s b a f q z9 v1) d2.symm) ?_
        refine J_if_eq (tgt := 94) hC dX5_readNewName_87 (by decide) (fun _ => ?_) (fun c => absurd (by decide) c)
        refine J_iconst (v := 0) hC dX5_readNewName_94 rfl ?_
        refine J_iret hC hR dX5_readNewName_95 rfl v1 ?_ ?_ (by decide) (by decide)
        · have eS : c_nn f q.2 t = t2 := by rw [c_nn, c_nn2, c_wd, ← d1, p_wd, p_chk_t ((kC_1 (tK_le3 f q.2 t1.2.1)).mp c_15), p_chk_t c_33, p_chk_f hc1 (fun h => c_54 h.1), d2]
          rw [eS]
          exact ⟨Or.inr ⟨rfl, hz2⟩, hv2⟩
        · have eS : c_nn f q.2 t = t2 := by rw [c_nn, c_nn2, c_wd, ← d1, p_wd, p_chk_t ((kC_1 (tK_le3 f q.2 t1.2.1)).mp c_15), p_chk_t c_33, p_chk_f hc1 (fun h => c_54 h.1), d2]
          rw [eS]
      · refine J_aload_n hC dX5_readNewName_57 1 rfl rfl ?_
        refine J_get (v := .ref (a 0)) hC wu_X5 rfl dX5_readNewName_58 0 1 (by decide) wf_X5_27 rfl rfl ?_
        refine J_get (v := .ref (a 5)) hC wu_X8 rfl dX5_readNewName_61 4 1 (by decide) wf_X5_129 rfl rfl ?_
        refine J_iload_n hC dX5_readNewName_64 0 rfl rfl ?_
        refine J_callVi hC dX5_readNewName_65 wl_X5_179 yi_X2_numberOf (cons_i (appr_i (scW G s b f q t1.2.1 v1) (c_X2_numberOf _ G a t1.1 (fcO t1.1) (c_nm f q.2 t1) hI1.2.2.1.1 (by have := hI1.2.2.1.2; omega)))) rfl rfl 9 2 rfl rfl ⟨Nat.le_of_ble_eq_true rfl, Nat.le_of_ble_eq_true rfl⟩ (Nat.le_of_ble_eq_true rfl) (Nat.le_of_ble_eq_true rfl) (Nat.le_of_ble_eq_true rfl) (fun r u h_65 => ?_)
        refine J_wq (show _ = prW G p s b a f q t1 v1 from rfl) ?_
        subst h_65
        refine J_iconst (v := (-1)) hC dX5_readNewName_68 rfl ?_
        refine J_ic_eq (tgt := 76) hC dX5_readNewName_69 (by decide) (fun (c_69 : (s_num (t1.1 3) (c_nm f q.2 t1) (fcO t1.1)) = (-1)) => ?_) (fun (c_69 : ¬ (s_num (t1.1 3) (c_nm f q.2 t1) (fcO t1.1)) = (-1)) => ?_)
        · refine J_iconst (v := 0) hC dX5_readNewName_76 rfl ?_
          refine J_istore_n hC [(2, .int 0), (1, .int (c_nm f q.2 t1)), (0, .ref p)] dX5_readNewName_77 rfl (by decide) rfl ?_
          refine J_iload_n hC dX5_readNewName_78 0 rfl rfl ?_
          refine J_if_eq (tgt := 90) hC dX5_readNewName_79 (by decide) (fun _ => ?_) (fun c => absurd (by decide) c)
          refine J_iconst (v := 1) hC dX5_readNewName_90 rfl ?_
          refine J_goto (tgt := 95) hC dX5_readNewName_91 (by decide) ?_
          refine J_iret hC hR dX5_readNewName_95 rfl v1 ?_ ?_ (by decide) (by decide)
          · have eS : c_nn f q.2 t = t1 := by rw [c_nn, c_nn2, c_wd, ← d1, p_wd, p_chk_t ((kC_1 (tK_le3 f q.2 t1.2.1)).mp c_15), p_chk_t c_33, p_chk_t ⟨c_54, c_69⟩]
            rw [eS]
            exact ⟨Or.inl ⟨rfl, hc1⟩, hv1⟩
          · have eS : c_nn f q.2 t = t1 := by rw [c_nn, c_nn2, c_wd, ← d1, p_wd, p_chk_t ((kC_1 (tK_le3 f q.2 t1.2.1)).mp c_15), p_chk_t c_33, p_chk_t ⟨c_54, c_69⟩]
            rw [eS]
        · refine J_iconst (v := 1) hC dX5_readNewName_72 rfl ?_
          refine J_goto (tgt := 77) hC dX5_readNewName_73 (by decide) ?_
          refine J_istore_n hC [(2, .int 1), (1, .int (c_nm f q.2 t1)), (0, .ref p)] dX5_readNewName_77 rfl (by decide) rfl ?_
          refine J_iload_n hC dX5_readNewName_78 0 rfl rfl ?_
          refine J_if_eq (tgt := 90) hC dX5_readNewName_79 (by decide) (fun c => absurd c (by decide)) (fun _ => ?_)
          refine J_aload_n hC dX5_readNewName_82 2 rfl rfl ?_
          refine J_iconst (v := 3) hC dX5_readNewName_83 rfl ?_
          refine J_callVi hC dX5_readNewName_84 wl_X5_52 yi_X5_fail (c_X5_fail _ G p s b a f q t1 v1 3) rfl rfl 0 5 rfl rfl ⟨Nat.le_of_ble_eq_true rfl, Nat.le_of_ble_eq_true rfl⟩ (Nat.le_of_ble_eq_true rfl) (Nat.le_of_ble_eq_true rfl) (Nat.le_of_ble_eq_true rfl) (fun r u h_84 => ?_)
          subst h_84
          obtain ⟨t2, d2⟩ : ∃ z9, z9 = (t1.1, t1.2.1, (3 : Int32), nI (tS f q.2 t1.2.1)) := ⟨_, rfl⟩
          have hz2 : ¬ t2.2.2.1 = 0 := by rw [d2]; show ¬ (3 : Int32) = 0; decide
          have hv2 : NU f q.2 t2.2.1 v1 := by rw [d2]; exact hv1
          refine J_wq (congrArg (fun z9 => prW G p s b a f q z9 v1) d2.symm) ?_
          refine J_if_eq (tgt := 94) hC dX5_readNewName_87 (by decide) (fun _ => ?_) (fun c => absurd (by decide) c)
          refine J_iconst (v := 0) hC dX5_readNewName_94 rfl ?_
          refine J_iret hC hR dX5_readNewName_95 rfl v1 ?_ ?_ (by decide) (by decide)
          · have eS : c_nn f q.2 t = t2 := by rw [c_nn, c_nn2, c_wd, ← d1, p_wd, p_chk_t ((kC_1 (tK_le3 f q.2 t1.2.1)).mp c_15), p_chk_t c_33, p_chk_f hc1 (fun h => c_69 h.2), d2]
            rw [eS]
            exact ⟨Or.inr ⟨rfl, hz2⟩, hv2⟩
          · have eS : c_nn f q.2 t = t2 := by rw [c_nn, c_nn2, c_wd, ← d1, p_wd, p_chk_t ((kC_1 (tK_le3 f q.2 t1.2.1)).mp c_15), p_chk_t c_33, p_chk_f hc1 (fun h => c_69 h.2), d2]
            rw [eS]
    · refine J_aload_n hC dX5_readNewName_36 1 rfl rfl ?_
      refine J_iconst (v := 2) hC dX5_readNewName_37 rfl ?_
      refine J_callVi hC dX5_readNewName_38 wl_X5_52 yi_X5_fail (c_X5_fail _ G p s b a f q t1 v1 2) rfl rfl 0 5 rfl rfl ⟨Nat.le_of_ble_eq_true rfl, Nat.le_of_ble_eq_true rfl⟩ (Nat.le_of_ble_eq_true rfl) (Nat.le_of_ble_eq_true rfl) (Nat.le_of_ble_eq_true rfl) (fun r u h_38 => ?_)
      subst h_38
      obtain ⟨t2, d2⟩ : ∃ z9, z9 = (t1.1, t1.2.1, (2 : Int32), nI (tS f q.2 t1.2.1)) := ⟨_, rfl⟩
      have hz2 : ¬ t2.2.2.1 = 0 := by rw [d2]; show ¬ (2 : Int32) = 0; decide
      have hv2 : NU f q.2 t2.2.1 v1 := by rw [d2]; exact hv1
      refine J_wq (congrArg (fun z9 => prW G p s b a f q z9 v1) d2.symm) ?_
      refine J_iret hC hR dX5_readNewName_41 rfl v1 ?_ ?_ (by decide) (by decide)
      · have eS : c_nn f q.2 t = t2 := by rw [c_nn, c_nn2, c_wd, ← d1, p_wd, p_chk_t ((kC_1 (tK_le3 f q.2 t1.2.1)).mp c_15), p_chk_f hc1 (fun h => h c_33), p_chk_z (by show ¬ (2 : Int32) = 0; decide), d2]
        rw [eS]
        exact ⟨Or.inr ⟨rfl, hz2⟩, hv2⟩
      · have eS : c_nn f q.2 t = t2 := by rw [c_nn, c_nn2, c_wd, ← d1, p_wd, p_chk_t ((kC_1 (tK_le3 f q.2 t1.2.1)).mp c_15), p_chk_f hc1 (fun h => h c_33), p_chk_z (by show ¬ (2 : Int32) = 0; decide), d2]
        rw [eS]
  · refine J_aload_n hC dX5_readNewName_18 0 rfl rfl ?_
    refine J_iconst (v := 1) hC dX5_readNewName_19 rfl ?_
    refine J_callVi hC dX5_readNewName_20 wl_X5_52 yi_X5_fail (c_X5_fail _ G p s b a f q t1 v1 1) rfl rfl 0 5 rfl rfl ⟨Nat.le_of_ble_eq_true rfl, Nat.le_of_ble_eq_true rfl⟩ (Nat.le_of_ble_eq_true rfl) (Nat.le_of_ble_eq_true rfl) (Nat.le_of_ble_eq_true rfl) (fun r u h_20 => ?_)
    subst h_20
    obtain ⟨t2, d2⟩ : ∃ z9, z9 = (t1.1, t1.2.1, (1 : Int32), nI (tS f q.2 t1.2.1)) := ⟨_, rfl⟩
    have hz2 : ¬ t2.2.2.1 = 0 := by rw [d2]; show ¬ (1 : Int32) = 0; decide
    have hv2 : NU f q.2 t2.2.1 v1 := by rw [d2]; exact hv1
    refine J_wq (congrArg (fun z9 => prW G p s b a f q z9 v1) d2.symm) ?_
    refine J_iret hC hR dX5_readNewName_23 rfl v1 ?_ ?_ (by decide) (by decide)
    · have eS : c_nn f q.2 t = t2 := by rw [c_nn, c_nn2, c_wd, ← d1, p_wd, p_chk_f hc1 (fun h => c_15 ((kC_1 (tK_le3 f q.2 t1.2.1)).mpr h)), p_chk_z (by show ¬ (1 : Int32) = 0; decide), p_chk_z (by show ¬ (1 : Int32) = 0; decide), d2]
      rw [eS]
      exact ⟨Or.inr ⟨rfl, hz2⟩, hv2⟩
    · have eS : c_nn f q.2 t = t2 := by rw [c_nn, c_nn2, c_wd, ← d1, p_wd, p_chk_f hc1 (fun h => c_15 ((kC_1 (tK_le3 f q.2 t1.2.1)).mpr h)), p_chk_z (by show ¬ (1 : Int32) = 0; decide), p_chk_z (by show ¬ (1 : Int32) = 0; decide), d2]
      rw [eS]

set_option maxRecDepth 100000 in
set_option maxHeartbeats 4000000 in
theorem c_X5_readKnownVillage (l : Launch) (G : gT) (p s : Nat) (b a : Nat → Nat) (f : RT) (q : RT × Nat) (t : PS CT) (v : Int32) (hf : ∀ j, j < q.2 → q.1 j &&& 255 = f j) (hq : q.2 ≤ 600) (ht : t.2.1 ≤ q.2) (hc : t.2.2.1 = 0) (hv : NU f q.2 t.2.1 v) (hI : CI t.1) : MI l yX5_readKnownVillage cX5_readKnownVillage 1 (some .boolean) { frames := 3, cells := 0, slots := 0, locals := 66 } [.ref (p)] G (prW G p s b a f q t v) (fun r (u : Int32) => ((r = 1 ∧ (c_kv f q.2 t).2.2.1 = 0) ∨ (r = 0 ∧ ¬ (c_kv f q.2 t).2.2.1 = 0)) ∧ NU f q.2 (c_kv f q.2 t).2.1 u) (fun u => prW G p s b a f q (c_kv f q.2 t) u) := by
  refine jm_i (own := RX5) (by decide) rfl (Nat.le_of_ble_eq_true rfl) (fun x hl hC hR hN => ?_)
  subst hl
  have hb0 := tok_b f ht hq
  refine J_aload_n hC dX5_readKnownVillage_0 0 rfl rfl ?_
  refine J_get (v := .ref s) hC wu_X5 rfl dX5_readKnownVillage_1 0 0 (by decide) wf_X5_23 rfl rfl ?_
  refine J_callVv hC dX5_readKnownVillage_4 wl_X5_35 yi_X6_next (cons_v (app_v (stW G a t.1) (c_X6_next _ G s b f q (kC (tK f q.2 t.2.1)) (nI (tS f q.2 t.2.1)) (tE f q.2 t.2.1) v hf hq (tE_le f q.2 _ ht).2))) rfl rfl 1 6 rfl rfl ⟨Nat.le_of_ble_eq_true rfl, Nat.le_of_ble_eq_true rfl⟩ (Nat.le_of_ble_eq_true rfl) (Nat.le_of_ble_eq_true rfl) (Nat.le_of_ble_eq_true rfl) (fun v1 hv1 => ?_)
  obtain ⟨t1, d1⟩ : ∃ z9, z9 = p_nxt f q.2 t := ⟨_, rfl⟩
  have dd1 := d1.trans (p_nxt_pos hc)
  have hc1 : t1.2.2.1 = 0 := by rw [dd1]; exact hc
  have ht1 : t1.2.1 ≤ q.2 := by rw [d1]; exact PE_nxt ht
  have hI1 : CI t1.1 := by rw [dd1]; exact hI
  have hb1 := tok_b f ht1 hq
  rw [show tE f q.2 t.2.1 = t1.2.1 from by rw [dd1]] at hv1
  refine J_wq (show _ = prW G p s b a f q t1 v1 from by rw [dd1]; rfl) ?_
  refine J_aload_n hC dX5_readKnownVillage_7 0 rfl rfl ?_
  refine J_get (v := .ref s) hC wu_X5 rfl dX5_readKnownVillage_8 0 0 (by decide) wf_X5_23 rfl rfl ?_
  refine J_get (v := .int (kC (tK f q.2 t1.2.1))) hC wu_X6 rfl dX5_readKnownVillage_11 1 1 (by decide) wf_X5_40 rfl rfl ?_
  refine J_iconst (v := 1) hC dX5_readKnownVillage_14 rfl ?_
  refine J_ic_eq (tgt := 24) hC dX5_readKnownVillage_15 (by decide) (fun (c_15 : (kC (tK f q.2 t1.2.1)) = 1) => ?_) (fun (c_15 : ¬ (kC (tK f q.2 t1.2.1)) = 1) => ?_)
  · refine J_aload_n hC dX5_readKnownVillage_24 0 rfl rfl ?_
    refine J_get (v := .ref (a 0)) hC wu_X5 rfl dX5_readKnownVillage_25 0 1 (by decide) wf_X5_27 rfl rfl ?_
    refine J_get (v := .ref (a 1)) hC wu_X8 rfl dX5_readKnownVillage_28 4 0 (by decide) wf_X5_110 rfl rfl ?_
    refine J_aload_n hC dX5_readKnownVillage_31 0 rfl rfl ?_
    refine J_get (v := .ref s) hC wu_X5 rfl dX5_readKnownVillage_32 0 0 (by decide) wf_X5_23 rfl rfl ?_
    refine J_callVi hC dX5_readKnownVillage_35 wl_X5_122 yi_X6_name (cons_i (app_i (stW G a t1.1) (c_X6_name _ G s b f q t1.2.1 v1 hf hq ht1))) rfl rfl 1 6 rfl rfl ⟨Nat.le_of_ble_eq_true rfl, Nat.le_of_ble_eq_true rfl⟩ (Nat.le_of_ble_eq_true rfl) (Nat.le_of_ble_eq_true rfl) (Nat.le_of_ble_eq_true rfl) (fun r u h_35 => ?_)
    subst h_35
    refine J_wq (show _ = prW G p s b a f q t1 v1 from rfl) ?_
    refine J_topi (show _ = c_nm f q.2 t1 from rfl) ?_
    refine J_callVi hC dX5_readKnownVillage_38 wl_X5_139 yi_X9_numberOf (cons_i (appr_i (scW G s b f q t1.2.1 v1) (c_X9_numberOf _ G a t1.1 (vcO t1.1) (c_nm f q.2 t1) hI1.2.1.1 (by have := hI1.2.1.2; omega)))) rfl rfl 5 9 rfl rfl ⟨Nat.le_of_ble_eq_true rfl, Nat.le_of_ble_eq_true rfl⟩ (Nat.le_of_ble_eq_true rfl) (Nat.le_of_ble_eq_true rfl) (Nat.le_of_ble_eq_true rfl) (fun r u h_38 => ?_)
    refine J_wq (show _ = prW G p s b a f q t1 v1 from rfl) ?_
    subst h_38
    refine J_iconst (v := (-1)) hC dX5_readKnownVillage_41 rfl ?_
    refine J_ic_ne (tgt := 53) hC dX5_readKnownVillage_42 (by decide) (fun (c_42 : ¬ (s_num (t1.1 0) (c_nm f q.2 t1) (vcO t1.1)) = (-1)) => ?_) (fun (c_42 : (s_num (t1.1 0) (c_nm f q.2 t1) (vcO t1.1)) = (-1)) => ?_)
    · refine J_iconst (v := 1) hC dX5_readKnownVillage_53 rfl ?_
      refine J_goto (tgt := 58) hC dX5_readKnownVillage_54 (by decide) ?_
      refine J_iret hC hR dX5_readKnownVillage_58 rfl v1 ?_ ?_ (by decide) (by decide)
      · have eS : c_kv f q.2 t = t1 := by rw [c_kv, c_wd, ← d1, p_wd, p_chk_t ((kC_1 (tK_le3 f q.2 t1.2.1)).mp c_15), c_kvV, p_chk_t c_42]
        rw [eS]
        exact ⟨Or.inl ⟨rfl, hc1⟩, hv1⟩
      · have eS : c_kv f q.2 t = t1 := by rw [c_kv, c_wd, ← d1, p_wd, p_chk_t ((kC_1 (tK_le3 f q.2 t1.2.1)).mp c_15), c_kvV, p_chk_t c_42]
        rw [eS]
    · refine J_aload_n hC dX5_readKnownVillage_45 0 rfl rfl ?_
      refine J_iconst (v := 4) hC dX5_readKnownVillage_46 rfl ?_
      refine J_callVi hC dX5_readKnownVillage_47 wl_X5_52 yi_X5_fail (c_X5_fail _ G p s b a f q t1 v1 4) rfl rfl 0 5 rfl rfl ⟨Nat.le_of_ble_eq_true rfl, Nat.le_of_ble_eq_true rfl⟩ (Nat.le_of_ble_eq_true rfl) (Nat.le_of_ble_eq_true rfl) (Nat.le_of_ble_eq_true rfl) (fun r u h_47 => ?_)
      subst h_47
      obtain ⟨t2, d2⟩ : ∃ z9, z9 = (t1.1, t1.2.1, (4 : Int32), nI (tS f q.2 t1.2.1)) := ⟨_, rfl⟩
      have hz2 : ¬ t2.2.2.1 = 0 := by rw [d2]; show ¬ (4 : Int32) = 0; decide
      have hv2 : NU f q.2 t2.2.1 v1 := by rw [d2]; exact hv1
      refine J_wq (congrArg (fun z9 => prW G p s b a f q z9 v1) d2.symm) ?_
      refine J_if_eq (tgt := 57) hC dX5_readKnownVillage_50 (by decide) (fun _ => ?_) (fun c => absurd (by decide) c)
      refine J_iconst (v := 0) hC dX5_readKnownVillage_57 rfl ?_
      refine J_iret hC hR dX5_readKnownVillage_58 rfl v1 ?_ ?_ (by decide) (by decide)
      · have eS : c_kv f q.2 t = t2 := by rw [c_kv, c_wd, ← d1, p_wd, p_chk_t ((kC_1 (tK_le3 f q.2 t1.2.1)).mp c_15), c_kvV, p_chk_f hc1 (fun h => h c_42), d2]
        rw [eS]
        exact ⟨Or.inr ⟨rfl, hz2⟩, hv2⟩
      · have eS : c_kv f q.2 t = t2 := by rw [c_kv, c_wd, ← d1, p_wd, p_chk_t ((kC_1 (tK_le3 f q.2 t1.2.1)).mp c_15), c_kvV, p_chk_f hc1 (fun h => h c_42), d2]
        rw [eS]
  · refine J_aload_n hC dX5_readKnownVillage_18 0 rfl rfl ?_
    refine J_iconst (v := 1) hC dX5_readKnownVillage_19 rfl ?_
    refine J_callVi hC dX5_readKnownVillage_20 wl_X5_52 yi_X5_fail (c_X5_fail _ G p s b a f q t1 v1 1) rfl rfl 0 5 rfl rfl ⟨Nat.le_of_ble_eq_true rfl, Nat.le_of_ble_eq_true rfl⟩ (Nat.le_of_ble_eq_true rfl) (Nat.le_of_ble_eq_true rfl) (Nat.le_of_ble_eq_true rfl) (fun r u h_20 => ?_)
    subst h_20
    obtain ⟨t2, d2⟩ : ∃ z9, z9 = (t1.1, t1.2.1, (1 : Int32), nI (tS f q.2 t1.2.1)) := ⟨_, rfl⟩
    have hz2 : ¬ t2.2.2.1 = 0 := by rw [d2]; show ¬ (1 : Int32) = 0; decide
    have hv2 : NU f q.2 t2.2.1 v1 := by rw [d2]; exact hv1
    refine J_wq (congrArg (fun z9 => prW G p s b a f q z9 v1) d2.symm) ?_
    refine J_iret hC hR dX5_readKnownVillage_23 rfl v1 ?_ ?_ (by decide) (by decide)
    · have eS : c_kv f q.2 t = t2 := by rw [c_kv, c_wd, ← d1, p_wd, p_chk_f hc1 (fun h => c_15 ((kC_1 (tK_le3 f q.2 t1.2.1)).mpr h)), p_chk_z (by show ¬ (1 : Int32) = 0; decide), d2]
      rw [eS]
      exact ⟨Or.inr ⟨rfl, hz2⟩, hv2⟩
    · have eS : c_kv f q.2 t = t2 := by rw [c_kv, c_wd, ← d1, p_wd, p_chk_f hc1 (fun h => c_15 ((kC_1 (tK_le3 f q.2 t1.2.1)).mpr h)), p_chk_z (by show ¬ (1 : Int32) = 0; decide), d2]
      rw [eS]


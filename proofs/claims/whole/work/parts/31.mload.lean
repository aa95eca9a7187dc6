/-- a text is read: the model behind it, before its parsed row is taken -/
def q_rd (M : CT) (il : Nat) : CT := us (pX (us M 8 2 0) il (p_all (M 6) il)) 8 3 0
def q_rem (X : CT) (un u0 : Nat) : CT := us (us (ur X 3 (va_cpy (X 0) (X 3) 0 (242 * ((u0 + un) % 8)) 242)) 8 1 (nI (if un = 8 then (u0 + 1) % 8 else u0))) 8 0 (nI (min (un + 1) 8))
def q_ld (M : CT) (il un u0 : Nat) : CT := ur (q_rem (q_rd M il) un u0) 0 (p_all (M 6) il).1

set_option maxRecDepth 100000 in
set_option maxHeartbeats 4000000 in
theorem c_X11_load (l : Launch) (G : gT) (m : Nat → Nat) (M : CT) (il : Nat) (un : Nat) (u0 : Nat) (hil : M 8 3 = nI il) (bil : il ≤ 600) (hun : M 8 0 = nI un) (bun : un ≤ 8) (hu0 : M 8 1 = nI u0) (bu0 : u0 ≤ 7) (hfi : ∀ j, j < il → ¬ M 6 j = -1) : MI l yX11_load cX11_load 1 (some .int) { frames := 9, cells := 0, slots := 0, locals := 192 } [.ref (m 0)] G (mdW G m M) (fun r (u : CT) => (((p_all (M 6) il).2.2.1 = 0) ∧ (p_all (M 6) il).1 6 = r ∧ (q_ld M il un u0) = u) ∨ ((¬ (p_all (M 6) il).2.2.1 = 0) ∧ 0 = r ∧ (us (q_rd M il) 8 2 1) = u)) (fun u => mdW G m u) := by
  refine jm_i (own := RX11) (by decide) rfl (Nat.le_of_ble_eq_true rfl) (fun x hl hC hR hN => ?_)
  subst hl
  refine J_aload_n hC dX11_load_0 0 rfl rfl ?_
  refine J_iconst (v := 0) hC dX11_load_1 rfl ?_
  refine J_put (ws' := mdW G m (us M 8 2 0)) hC wu_X11 rfl tyX11_ok nmX11 dX11_load_2 0 8 (by decide) wf_X11_66 rfl rfl (Nat.le_of_ble_eq_true rfl) rfl rfl rfl ?_
  refine J_aload_n hC dX11_load_5 0 rfl rfl ?_
  refine J_callVv hC dX11_load_6 wl_X11_46 yi_X11_read (c_X11_read _ G m il (us M 8 2 0) hil bil hfi) rfl rfl 0 11 rfl rfl ⟨Nat.le_of_ble_eq_true rfl, Nat.le_of_ble_eq_true rfl⟩ (Nat.le_of_ble_eq_true rfl) (Nat.le_of_ble_eq_true rfl) (Nat.le_of_ble_eq_true rfl) (fun _ _ => ?_)
  refine J_wq (show _ = mdW G m (pX (us M 8 2 0) il (p_all (M 6) il)) from rfl) ?_
  refine J_aload_n hC dX11_load_9 0 rfl rfl ?_
  refine J_iconst (v := 0) hC dX11_load_10 rfl ?_
  refine J_put (ws' := mdW G m (us (pX (us M 8 2 0) il (p_all (M 6) il)) 8 3 0)) hC wu_X11 rfl tyX11_ok nmX11 dX11_load_11 0 10 (by decide) wf_X11_49 rfl rfl (Nat.le_of_ble_eq_true rfl) rfl rfl rfl ?_
  obtain ⟨X, hX⟩ : ∃ X, X = q_rd M il := ⟨_, rfl⟩
  refine J_wq (congrArg (mdW G m) (show us (pX (us M 8 2 0) il (p_all (M 6) il)) 8 3 0 = X from hX.symm)) ?_
  have hX0 : X 8 0 = nI un := by rw [hX]; exact hun
  have hX1 : X 8 1 = nI u0 := by rw [hX]; exact hu0
  have hX2 : X 8 2 = 0 := by rw [hX]; rfl
  have hX9 : X 8 9 = (p_all (M 6) il).2.2.1 := by rw [hX]; rfl
  have hXr : X 1 = (p_all (M 6) il).1 := by rw [hX]; rfl
  refine J_aload_n hC dX11_load_14 0 rfl rfl ?_
  refine J_aload_n hC dX11_load_15 0 rfl rfl ?_
  refine J_get (v := .int (X 8 9)) hC wu_X11 rfl dX11_load_16 0 16 (by decide) wf_X11_153 rfl rfl ?_
  refine J_if_eq (tgt := 26) hC dX11_load_19 (by decide) (fun (c_19 : (X 8 9) = 0) => ?_) (fun (c_19 : ¬ (X 8 9) = 0) => ?_)
  · refine J_iconst (v := 0) hC dX11_load_26 rfl ?_
    refine J_iconst (v := 1) hC dX11_load_27 rfl ?_
    refine J_callVi hC dX11_load_28 wl_X11_141 yi_X11_refuses (c_X11_refuses_0 _ G m X 1 (hX2)) rfl rfl 0 11 rfl rfl ⟨Nat.le_of_ble_eq_true rfl, Nat.le_of_ble_eq_true rfl⟩ (Nat.le_of_ble_eq_true rfl) (Nat.le_of_ble_eq_true rfl) (Nat.le_of_ble_eq_true rfl) (fun r u h_28 => ?_)
    obtain ⟨c_28, rfl, rfl⟩ := h_28
    refine J_if_eq (tgt := 36) hC dX11_load_31 (by decide) (fun _ => ?_) (fun c => absurd (by decide) c)
    refine J_aload_n hC dX11_load_36 0 rfl rfl ?_
    refine J_callVv hC dX11_load_37 wl_X11_275 yi_X11_remember (c_X11_remember _ G m X un u0 (hX0) (by omega) (hX1) (by omega)) rfl rfl 0 11 rfl rfl ⟨Nat.le_of_ble_eq_true rfl, Nat.le_of_ble_eq_true rfl⟩ (Nat.le_of_ble_eq_true rfl) (Nat.le_of_ble_eq_true rfl) (Nat.le_of_ble_eq_true rfl) (fun _ _ => ?_)
    refine J_aload_n hC dX11_load_40 0 rfl rfl ?_
    refine J_get (v := .ref (m 2)) hC wu_X11 rfl dX11_load_41 0 1 (by decide) wf_X11_13 rfl rfl ?_
    refine J_iconst (v := 0) hC dX11_load_44 rfl ?_
    refine J_aload_n hC dX11_load_45 0 rfl rfl ?_
    refine J_get (v := .ref (m 1)) hC wu_X11 rfl dX11_load_46 0 0 (by decide) wf_X11_7 rfl rfl ?_
    refine J_iconst (v := 0) hC dX11_load_49 rfl ?_
    refine J_callSv hC dX11_load_50 wl_X11_52 wi_X11 yi_X11_copyRow (c_X11_copyRow_10 _ G m (us (us (ur X 3 (va_cpy (X 0) (X 3) 0 (242 * ((u0 + un) % 8)) 242)) 8 1 (nI (if un = 8 then (u0 + 1) % 8 else u0))) 8 0 (nI (min (un + 1) 8))) 0 0 (by omega) (by omega)) rfl rfl ⟨Nat.le_of_ble_eq_true rfl, Nat.le_of_ble_eq_true rfl⟩ (Nat.le_of_ble_eq_true rfl) (Nat.le_of_ble_eq_true rfl) (Nat.le_of_ble_eq_true rfl) (fun _ _ => ?_)
    refine J_congw (q := 1) (g := (X 1)) (ws' := mdW G m (ur (us (us (ur X 3 (va_cpy (X 0) (X 3) 0 (242 * ((u0 + un) % 8)) 242)) 8 1 (nI (if un = 8 then (u0 + 1) % 8 else u0))) 8 0 (nI (min (un + 1) 8))) 0 (X 1))) rfl (fun i hi => (pk_cpy_in (Nat.zero_le _) (by omega)).trans (congrArg (X 1) (by omega))) rfl ?_
    refine J_aload_n hC dX11_load_53 0 rfl rfl ?_
    refine J_get (v := .ref (m 1)) hC wu_X11 rfl dX11_load_54 0 0 (by decide) wf_X11_7 rfl rfl ?_
    refine J_bipush (v := 6) hC dX11_load_57 (by decide +kernel) ?_
    refine J_iald (i := 6) (v := X 1 6) hC dX11_load_59 1 rfl (by omega) (by decide) rfl ?_
    refine J_iret hC hR dX11_load_60 rfl (ur (us (us (ur X 3 (va_cpy (X 0) (X 3) 0 (242 * ((u0 + un) % 8)) 242)) 8 1 (nI (if un = 8 then (u0 + 1) % 8 else u0))) 8 0 (nI (min (un + 1) 8))) 0 (X 1)) ?_ ?_ (by decide) (by decide)
    · exact Or.inl ⟨by rw [← hX9]; exact c_19, by rw [← hXr], by rw [q_ld, q_rem, ← hX, ← hXr]⟩
    · rfl
  · refine J_iconst (v := 1) hC dX11_load_22 rfl ?_
    refine J_goto (tgt := 27) hC dX11_load_23 (by decide) ?_
    refine J_iconst (v := 1) hC dX11_load_27 rfl ?_
    refine J_callVi hC dX11_load_28 wl_X11_141 yi_X11_refuses (c_X11_refuses_1 _ G m X 1 (hX2) (by decide)) rfl rfl 0 11 rfl rfl ⟨Nat.le_of_ble_eq_true rfl, Nat.le_of_ble_eq_true rfl⟩ (Nat.le_of_ble_eq_true rfl) (Nat.le_of_ble_eq_true rfl) (Nat.le_of_ble_eq_true rfl) (fun r u h_28 => ?_)
    obtain ⟨c_28, rfl, rfl⟩ := h_28
    refine J_if_eq (tgt := 36) hC dX11_load_31 (by decide) (fun c => absurd c (by decide)) (fun _ => ?_)
    refine J_iconst (v := 0) hC dX11_load_34 rfl ?_
    refine J_iret hC hR dX11_load_35 rfl (us X 8 2 1) ?_ ?_ (by decide) (by decide)
    · exact Or.inr (⟨by rw [← hX9]; exact c_19, rfl, by rw [← hX]⟩)
    · rfl

/-- the chars of the first text, over the former row -/
def q_txt (f : RT) : RT := fun j => if j < 182 then sk_ch 10 j else f j

set_option maxRecDepth 100000 in
set_option maxHeartbeats 4000000 in
theorem c_X11_layInput (l : Launch) (G : gT) (m : Nat → Nat) (M : CT) : MV l yX11_layInput cX11_layInput 3 { frames := 4, cells := 0, slots := 0, locals := 85 } [.ref (m 0), .ref (G.2.2.1 10)] G (mdW G m M) (fun (_ : Unit) => True) (fun _ => mdW G m (us (ur M 6 (q_txt (M 6))) 8 3 182)) := by
  refine jm_v (own := RX11) (by decide) rfl (Nat.le_of_ble_eq_true rfl) (fun x hl hC hR hN => ?_)
  subst hl
  have key : ∀ fuel : Nat, (∀ (i : Nat) (T : RT), (i ≤ 182) → (∀ q, q < i → T q = sk_ch 10 q) → (∀ q, i ≤ q → T q = M 6 q) → 2000 - i < fuel → J x G (mdW G m (ur M 6 T)) 0 0 [(0, .ref (m 0)), (1, .ref (G.2.2.1 10)), (2, .int (nI i))] [] 2) := by
    intro fuel
    induction fuel with
    | zero => exact fun _ _ _ _ _ h => absurd h (Nat.not_lt_zero _)
    | succ fuel ih =>
      intro i T hi hT hT2 hmu
      refine J_iload_n hC dX11_layInput_2 2 rfl rfl ?_
      refine J_aload_n hC dX11_layInput_3 1 rfl rfl ?_
      refine J_callVis (i := 10) hC dX11_layInput_4 wl_X11_56 yi_J0_length_8abf5 (c_J0_length_8abf5 _ G (mdW G m (ur M 6 T)) 10 (by decide)) rfl rfl (by decide) ⟨Nat.le_of_ble_eq_true rfl, Nat.le_of_ble_eq_true rfl⟩ (Nat.le_of_ble_eq_true rfl) (Nat.le_of_ble_eq_true rfl) (Nat.le_of_ble_eq_true rfl) (fun r u h_4 => ?_)
      subst h_4
      refine J_topi (show nI (SKn.getD 10 0) = 182 from by decide) ?_
      refine J_ic_geN (a := i) (b := 182) (tgt := 27) hC dX11_layInput_7 (by decide) (by omega) (by omega) (fun (c_7 : 182 ≤ i) => ?_) (fun (c_7 : i < 182) => ?_)
      · refine J_aload_n hC dX11_layInput_27 0 rfl rfl ?_
        refine J_aload_n hC dX11_layInput_28 1 rfl rfl ?_
        refine J_callVis (i := 10) hC dX11_layInput_29 wl_X11_56 yi_J0_length_8abf5 (c_J0_length_8abf5 _ G (mdW G m (ur M 6 T)) 10 (by decide)) rfl rfl (by decide) ⟨Nat.le_of_ble_eq_true rfl, Nat.le_of_ble_eq_true rfl⟩ (Nat.le_of_ble_eq_true rfl) (Nat.le_of_ble_eq_true rfl) (Nat.le_of_ble_eq_true rfl) (fun r u h_29 => ?_)
        subst h_29
        refine J_topi (show nI (SKn.getD 10 0) = 182 from by decide) ?_
        refine J_put (ws' := mdW G m (us (ur M 6 T) 8 3 182)) hC wu_X11 rfl tyX11_ok nmX11 dX11_layInput_32 0 10 (by decide) wf_X11_49 rfl rfl (Nat.le_of_ble_eq_true rfl) rfl rfl rfl ?_
        refine J_vret hC hR dX11_layInput_35 () ?_ ?_ (by decide) (by decide)
        · trivial
        · refine congrArg (mdW G m) ?_
          rw [show T = q_txt (M 6) from funext fun j => by
            unfold q_txt
            split
            · rename_i h; exact hT j (by omega)
            · rename_i h; exact hT2 j (by omega)]
      · refine J_aload_n hC dX11_layInput_10 0 rfl rfl ?_
        refine J_get (v := .ref (m 7)) hC wu_X11 rfl dX11_layInput_11 0 9 (by decide) wf_X11_29 rfl rfl ?_
        refine J_iload_n hC dX11_layInput_14 2 rfl rfl ?_
        refine J_aload_n hC dX11_layInput_15 1 rfl rfl ?_
        refine J_iload_n hC dX11_layInput_16 2 rfl rfl ?_
        refine J_callVis (i := 10) hC dX11_layInput_17 wl_X11_62 yi_J0_charAt_5068e (c_J0_charAt_5068e _ G (mdW G m (ur M 6 T)) 10 i (by decide) (show i < SKn.getD 10 0 from by show i < 182; omega)) rfl rfl (by decide) ⟨Nat.le_of_ble_eq_true rfl, Nat.le_of_ble_eq_true rfl⟩ (Nat.le_of_ble_eq_true rfl) (Nat.le_of_ble_eq_true rfl) (Nat.le_of_ble_eq_true rfl) (fun r u h_17 => ?_)
        subst h_17
        refine J_iast (i := i) (ws' := mdW G m (us (ur M 6 T) 6 i (sk_ch 10 i))) hC dX11_layInput_20 7 rfl (by omega) (by decide) rfl ?_
        refine J_iinc hC [(2, .int (nI (i + 1))), (0, .ref (m 0)), (1, .ref (G.2.2.1 10))] dX11_layInput_21 2 rfl (nI_inc _) (by decide) rfl ?_
        refine J_goto (tgt := 2) hC dX11_layInput_24 (by decide) ?_
        refine J_lv (lv' := [(0, .ref (m 0)), (1, .ref (G.2.2.1 10)), (2, .int (nI (i + 1)))]) [1, 2, 0] rfl ?_
        exact ih (i + 1) (upd T i (sk_ch 10 i)) (by omega) (fun q hq => (Nat.lt_succ_iff_lt_or_eq.mp hq).elim (fun z => (pk_un (by omega)).trans (hT q z)) (fun e => by rw [e]; exact pk_us)) (fun q hq => (pk_un (by omega)).trans (hT2 q (by omega))) (by omega)
  refine J_iconst (v := 0) hC dX11_layInput_0 rfl ?_
  refine J_istore_n hC [(2, .int 0), (0, .ref (m 0)), (1, .ref (G.2.2.1 10))] dX11_layInput_1 rfl (by decide) rfl ?_
  refine J_lv (lv' := [(0, .ref (m 0)), (1, .ref (G.2.2.1 10)), (2, .int 0)]) [1, 2, 0] rfl ?_
  exact (key _) 0 (M 6) (by omega) (fun q hq => absurd hq (Nat.not_lt_zero _)) (fun q hq => rfl) (Nat.lt_succ_self _)

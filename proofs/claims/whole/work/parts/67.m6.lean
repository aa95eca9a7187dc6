def m_sumT (g : RT) (vc : Nat) : Int32 := fo (fun i s => s + g (26 + 3 * i)) 0 vc (0 : Int32)

set_option maxRecDepth 100000 in
set_option maxHeartbeats 4000000 in
theorem c_X11_averageTrust (l : Launch) (G : gT) (m : Nat → Nat) (M : CT) (vc : Nat) (hvc : M 0 6 = nI vc) (bvc : vc ≤ 6) : MD l yX11_averageTrust cX11_averageTrust 3 { frames := 1, cells := 0, slots := 0, locals := 42 } [.ref (m 0)] G (mdW G m M) (fun r9 (_ : Unit) => r9 = fd_ratio (m_sumT (M 0) vc) (M 0 6)) (fun _ => mdW G m (us M 8 2 0)) := by
  refine jm_d (own := RX11) (by decide) rfl (Nat.le_of_ble_eq_true rfl) (fun x hl hC hR hN => ?_)
  subst hl
  refine J_aload_n hC dX11_averageTrust_0 0 rfl rfl ?_
  refine J_iconst (v := 0) hC dX11_averageTrust_1 rfl ?_
  refine J_put (ws' := mdW G m (us M 8 2 0)) hC wu_X11 rfl tyX11_ok nmX11 dX11_averageTrust_2 0 8 (by decide) wf_X11_66 rfl rfl (Nat.le_of_ble_eq_true rfl) rfl rfl rfl ?_
  refine J_iconst (v := 0) hC dX11_averageTrust_5 rfl ?_
  refine J_istore_n hC [(1, .int 0), (0, .ref (m 0))] dX11_averageTrust_6 rfl (by decide) rfl ?_
  refine J_iconst (v := nI 0) hC dX11_averageTrust_7 rfl ?_
  refine J_istore_n hC [(2, .int (nI 0)), (1, .int 0), (0, .ref (m 0))] dX11_averageTrust_8 rfl (by decide) rfl ?_
  suffices hlp : ∀ (k9 i : Nat) (t : Int32), i + k9 = vc → fo (fun i s => s + M 0 (26 + 3 * i)) i k9 t = m_sumT (M 0) vc → J x G (mdW G m (us M 8 2 0)) 0 0 [(2, .int (nI i)), (1, .int t), (0, .ref (m 0))] [] 9 from hlp vc 0 0 (by omega) rfl
  intro k9
  induction k9 with
  | zero =>
    intro i t hik hfo
    refine J_iload_n hC dX11_averageTrust_9 0 rfl rfl ?_
    refine J_aload_n hC dX11_averageTrust_10 2 rfl rfl ?_
    refine J_get (v := .ref (m 1)) hC wu_X11 rfl dX11_averageTrust_11 0 0 (by decide) wf_X11_7 rfl rfl ?_
    refine J_bipush (v := nI 6) hC dX11_averageTrust_14 rfl ?_
    refine J_iald (v := M 0 6) hC dX11_averageTrust_16 1 rfl (show 6 < 242 by decide) (by decide) rfl ?_
    refine J_topi hvc ?_
    refine J_ic_geN (tgt := 40) hC dX11_averageTrust_17 (by decide) (by omega) (by omega) (fun _ => ?_) (fun c => absurd c (by omega))
    have e9 : t = m_sumT (M 0) vc := hfo
    subst e9
    refine J_aload_n hC dX11_averageTrust_40 2 rfl rfl ?_
    refine J_get (v := .ref (m 1)) hC wu_X11 rfl dX11_averageTrust_41 0 0 (by decide) wf_X11_7 rfl rfl ?_
    refine J_bipush (v := nI 6) hC dX11_averageTrust_44 rfl ?_
    refine J_iald (v := M 0 6) hC dX11_averageTrust_46 1 rfl (show 6 < 242 by decide) (by decide) rfl ?_
    refine J_if_ne (tgt := 54) hC dX11_averageTrust_47 (by decide) (fun c => ?_) (fun c => ?_)
    · refine J_iload_n hC dX11_averageTrust_54 1 rfl rfl ?_
      refine J_i2d hC dX11_averageTrust_55 ?_
      refine J_aload_n hC dX11_averageTrust_56 2 rfl rfl ?_
      refine J_get (v := .ref (m 1)) hC wu_X11 rfl dX11_averageTrust_57 0 0 (by decide) wf_X11_7 rfl rfl ?_
      refine J_bipush (v := nI 6) hC dX11_averageTrust_60 rfl ?_
      refine J_iald (v := M 0 6) hC dX11_averageTrust_62 1 rfl (show 6 < 242 by decide) (by decide) rfl ?_
      refine J_i2d hC dX11_averageTrust_63 ?_
      refine J_ddiv hC dX11_averageTrust_64 (fp_ddiv _ _ c) ?_
      exact J_dret hC hR dX11_averageTrust_65 () (by rw [fd_ratio, if_neg c]) rfl (by decide) (by decide)
    · refine J_dconst0 hC dX11_averageTrust_50 ?_
      refine J_goto (tgt := 65) hC dX11_averageTrust_51 (by decide) ?_
      exact J_dret hC hR dX11_averageTrust_65 () (by rw [fd_ratio, if_pos c]) rfl (by decide) (by decide)
  | succ k9 ih =>
    intro i t hik hfo
    refine J_iload_n hC dX11_averageTrust_9 0 rfl rfl ?_
    refine J_aload_n hC dX11_averageTrust_10 2 rfl rfl ?_
    refine J_get (v := .ref (m 1)) hC wu_X11 rfl dX11_averageTrust_11 0 0 (by decide) wf_X11_7 rfl rfl ?_
    refine J_bipush (v := nI 6) hC dX11_averageTrust_14 rfl ?_
    refine J_iald (v := M 0 6) hC dX11_averageTrust_16 1 rfl (show 6 < 242 by decide) (by decide) rfl ?_
    refine J_topi hvc ?_
    refine J_ic_geN (tgt := 40) hC dX11_averageTrust_17 (by decide) (by omega) (by omega) (fun c => absurd c (by omega)) (fun c => ?_)
    refine J_iload_n hC dX11_averageTrust_20 1 rfl rfl ?_
    refine J_aload_n hC dX11_averageTrust_21 2 rfl rfl ?_
    refine J_get (v := .ref (m 1)) hC wu_X11 rfl dX11_averageTrust_22 0 0 (by decide) wf_X11_7 rfl rfl ?_
    refine J_iload_n hC dX11_averageTrust_25 0 rfl rfl ?_
    refine J_callSi hC dX11_averageTrust_26 wl_X11_81 wi_X11 yi_X11_ofVillage (c_X11_ofVillage _ G (mdW G m (us M 8 2 0)) i) rfl rfl ⟨Nat.le_of_ble_eq_true rfl, Nat.le_of_ble_eq_true rfl⟩ (Nat.le_of_ble_eq_true rfl) (Nat.le_of_ble_eq_true rfl) (Nat.le_of_ble_eq_true rfl) (fun r9 u9 h9 => ?_)
    subst h9
    refine J_iconst (v := nI 2) hC dX11_averageTrust_29 rfl ?_
    refine J_iadd (v := nI (26 + 3 * i)) hC dX11_averageTrust_30 (by rw [nI_add]; congr 1; omega) ?_
    refine J_iald (v := M 0 (26 + 3 * i)) hC dX11_averageTrust_31 1 rfl (show 26 + 3 * i < 242 by omega) (by decide) rfl ?_
    refine J_iadd (v := t + M 0 (26 + 3 * i)) hC dX11_averageTrust_32 rfl ?_
    refine J_istore_n hC [(1, .int (t + M 0 (26 + 3 * i))), (2, .int (nI i)), (0, .ref (m 0))] dX11_averageTrust_33 rfl (by decide) rfl ?_
    refine J_iinc hC [(2, .int (nI (i + 1))), (1, .int (t + M 0 (26 + 3 * i))), (0, .ref (m 0))] dX11_averageTrust_34 1 rfl (nI_inc i) (by decide) rfl ?_
    refine J_goto (tgt := 9) hC dX11_averageTrust_37 (by decide) ?_
    exact ih (i + 1) _ (by omega) hfo

theorem m_days_ix : ∀ (n i : Nat) (g : RT), fo m_dayB i n g = m_days n g
  | 0, _, _ => rfl
  | n + 1, i, g => by
    show fo m_dayB (i + 1) n (m_day g) = fo m_dayB 1 n (m_day g)
    rw [m_days_ix n (i + 1), m_days_ix n 1]
theorem m_days_succ (n : Nat) (g : RT) : m_days (n + 1) g = m_days n (m_day g) := m_days_ix n 1 (m_day g)

set_option maxRecDepth 100000 in
set_option maxHeartbeats 4000000 in
theorem c_X11_daysUntilEmpty (l : Launch) (G : gT) (m : Nat → Nat) (M : CT) (bc vc fc mc N : Nat) (hmI : mI (M 0) bc vc fc mc) (hN : N ≤ 1000) (hpos : ∀ j, j < N → 0 < m_bc (m_days j (M 0))) (hz : m_bc (m_days N (M 0)) = 0) : MI l yX11_daysUntilEmpty cX11_daysUntilEmpty 2 (some .int) { frames := 4, cells := 0, slots := 0, locals := 91 } [.ref (m 0)] G (mdW G m M) (fun r9 (_ : Unit) => r9 = nI N) (fun _ => mdW G m (ur (us M 8 2 0) 2 (m_days N (M 0)))) := by
  refine jm_i (own := RX11) (by decide) rfl (Nat.le_of_ble_eq_true rfl) (fun x hl hC hR hN => ?_)
  subst hl
  refine J_aload_n hC dX11_daysUntilEmpty_0 0 rfl rfl ?_
  refine J_iconst (v := 0) hC dX11_daysUntilEmpty_1 rfl ?_
  refine J_put (ws' := mdW G m (us M 8 2 0)) hC wu_X11 rfl tyX11_ok nmX11 dX11_daysUntilEmpty_2 0 8 (by decide) wf_X11_66 rfl rfl (Nat.le_of_ble_eq_true rfl) rfl rfl rfl ?_
  refine J_aload_n hC dX11_daysUntilEmpty_5 0 rfl rfl ?_
  refine J_get (v := .ref (m 1)) hC wu_X11 rfl dX11_daysUntilEmpty_6 0 0 (by decide) wf_X11_7 rfl rfl ?_
  refine J_iconst (v := nI 0) hC dX11_daysUntilEmpty_9 rfl ?_
  refine J_aload_n hC dX11_daysUntilEmpty_10 0 rfl rfl ?_
  refine J_get (v := .ref (m 3)) hC wu_X11 rfl dX11_daysUntilEmpty_11 0 2 (by decide) wf_X11_16 rfl rfl ?_
  refine J_iconst (v := nI 0) hC dX11_daysUntilEmpty_14 rfl ?_
  refine J_callSv hC dX11_daysUntilEmpty_15 wl_X11_52 wi_X11 yi_X11_copyRow (c_X11_copyRow_02 _ G m (us M 8 2 0) 0 0 (by omega) (by omega)) rfl rfl ⟨Nat.le_of_ble_eq_true rfl, Nat.le_of_ble_eq_true rfl⟩ (Nat.le_of_ble_eq_true rfl) (Nat.le_of_ble_eq_true rfl) (Nat.le_of_ble_eq_true rfl) (fun _ _ => ?_)
  refine J_congw (q := 3) (g := (M 0)) (ws' := mdW G m (ur (us M 8 2 0) 2 (M 0))) rfl (fun i hi => (pk_cpy_in (Nat.zero_le _) (by omega)).trans (congrArg (M 0) (by omega))) rfl ?_
  refine J_iconst (v := nI 0) hC dX11_daysUntilEmpty_18 rfl ?_
  refine J_istore_n hC [(1, .int (nI 0)), (0, .ref (m 0))] dX11_daysUntilEmpty_19 rfl (by decide) rfl ?_
  suffices hlp : ∀ (k9 i : Nat) (T : RT) (bb mm : Nat), mI T bb vc fc mm → i + k9 = N → (∀ j, j < k9 → 0 < m_bc (m_days j T)) → m_bc (m_days k9 T) = 0 → m_days k9 T = m_days N (M 0) → J x G (mdW G m (ur (us M 8 2 0) 2 T)) 0 0 [(1, .int (nI i)), (0, .ref (m 0))] [] 20 from hlp N 0 (M 0) bc mc hmI (by omega) hpos hz rfl
  intro k9
  induction k9 with
  | zero =>
    intro i T bb mm hTI hik hp hz0 htot
    have hbb := hTI.1.2
    have hT8 := hTI.1.1
    have hbT : m_bc T = bb := by rw [m_bc, hT8]; exact nI_clamp (by omega)
    refine J_aload_n hC dX11_daysUntilEmpty_20 1 rfl rfl ?_
    refine J_get (v := .ref (m 3)) hC wu_X11 rfl dX11_daysUntilEmpty_21 0 2 (by decide) wf_X11_16 rfl rfl ?_
    refine J_bipush (v := nI 8) hC dX11_daysUntilEmpty_24 rfl ?_
    refine J_iald (v := T 8) hC dX11_daysUntilEmpty_26 3 rfl (show 8 < 242 by decide) (by decide) rfl ?_
    refine J_topi hT8 ?_
    have hb0 : bb = 0 := by rw [← hbT]; exact hz0
    refine J_if_leN (tgt := 43) hC dX11_daysUntilEmpty_27 (by decide) (by omega) (fun _ => ?_) (fun c => absurd c (by omega))
    refine J_iload_n hC dX11_daysUntilEmpty_43 0 rfl rfl ?_
    exact J_iret hC hR dX11_daysUntilEmpty_44 rfl () (by rw [show i = N by omega]) (by rw [← htot]; rfl) (by decide) (by decide)
  | succ k9 ih =>
    intro i T bb mm hTI hik hp hz0 htot
    have hbb := hTI.1.2
    have hT8 := hTI.1.1
    have hbT : m_bc T = bb := by rw [m_bc, hT8]; exact nI_clamp (by omega)
    refine J_aload_n hC dX11_daysUntilEmpty_20 1 rfl rfl ?_
    refine J_get (v := .ref (m 3)) hC wu_X11 rfl dX11_daysUntilEmpty_21 0 2 (by decide) wf_X11_16 rfl rfl ?_
    refine J_bipush (v := nI 8) hC dX11_daysUntilEmpty_24 rfl ?_
    refine J_iald (v := T 8) hC dX11_daysUntilEmpty_26 3 rfl (show 8 < 242 by decide) (by decide) rfl ?_
    refine J_topi hT8 ?_
    have hb0 : 0 < bb := by rw [← hbT]; exact hp 0 (by omega)
    have hmm := hTI.2.2.2.1.2
    have hvv := hTI.2.1.2
    have hff := hTI.2.2.1.2
    refine J_if_leN (tgt := 43) hC dX11_daysUntilEmpty_27 (by decide) (by omega) (fun c => absurd c (by omega)) (fun _ => ?_)
    refine J_aload_n hC dX11_daysUntilEmpty_30 1 rfl rfl ?_
    refine J_get (v := .ref (m 3)) hC wu_X11 rfl dX11_daysUntilEmpty_31 0 2 (by decide) wf_X11_16 rfl rfl ?_
    refine J_callSv hC dX11_daysUntilEmpty_34 wl_X11_138 wi_X11 yi_X11_passDay (mdl2_v (M := ur (us M 8 2 0) 2 T) (c_X11_passDay _ G (m 3) T bb vc fc mm (hTI.1.1) (by omega) (hTI.2.1.1) (by omega) (hTI.2.2.1.1) (by omega) (hTI.2.2.2.1.1) (by omega) (hTI))) rfl rfl ⟨Nat.le_of_ble_eq_true rfl, Nat.le_of_ble_eq_true rfl⟩ (Nat.le_of_ble_eq_true rfl) (Nat.le_of_ble_eq_true rfl) (Nat.le_of_ble_eq_true rfl) (fun _ _ => ?_)
    refine J_wq (show _ = mdW G m (ur (us M 8 2 0) 2 (m_day T)) from congrArg (fun z9 => mdW G m z9) (ur_ur _ _ _ _)) ?_
    obtain ⟨b2, m2, hb2, hI2⟩ := hTI.day
    refine J_iinc hC [(1, .int (nI (i + 1))), (0, .ref (m 0))] dX11_daysUntilEmpty_37 0 rfl (nI_inc i) (by decide) rfl ?_
    refine J_goto (tgt := 20) hC dX11_daysUntilEmpty_40 (by decide) ?_
    exact ih (i + 1) (m_day T) b2 m2 hI2 (by omega) (fun j hj => by rw [← m_days_succ]; exact hp (j + 1) (by omega)) (by rw [← m_days_succ]; exact hz0) (by rw [← m_days_succ]; exact htot)

set_option maxRecDepth 100000 in
set_option maxHeartbeats 4000000 in
theorem c_X8_payBack (l : Launch) (G : gT) (a : Nat → Nat) (S : CT) (r : Int32) : MV l yX8_payBack cX8_payBack 2 { frames := 0, cells := 0, slots := 0, locals := 0 } [.ref (a 0), .int r] G (stW G a S) (fun (_ : Unit) => True) (fun _ => stW G a (s_payBack S r)) := by
  refine jm_v (own := RX8) (by decide) rfl (Nat.le_of_ble_eq_true rfl) (fun x hl hC hR hN => ?_)
  subst hl
  refine J_aload_n hC dX8_payBack_0 0 rfl rfl ?_
  refine J_dup hC dX8_payBack_1 rfl ?_
  refine J_get (v := .int (S 16 1)) hC wu_X8 rfl dX8_payBack_2 0 6 (by decide) wf_X8_50 rfl rfl ?_
  refine J_iload_n hC dX8_payBack_5 1 rfl rfl ?_
  refine J_isub (v := (S 16 1) - r) hC dX8_payBack_6 rfl ?_
  refine J_put (ws' := stW G a (us S 16 1 ((S 16 1) - r))) hC wu_X8 rfl tyX8_ok nmX8 dX8_payBack_7 0 6 (by decide) wf_X8_50 rfl rfl (Nat.le_of_ble_eq_true rfl) rfl rfl rfl ?_
  refine J_aload_n hC dX8_payBack_10 0 rfl rfl ?_
  refine J_dup hC dX8_payBack_11 rfl ?_
  refine J_get (v := .int (S 16 8)) hC wu_X8 rfl dX8_payBack_12 0 13 (by decide) wf_X8_71 rfl rfl ?_
  refine J_iload_n hC dX8_payBack_15 1 rfl rfl ?_
  refine J_iadd (v := (S 16 8) + r) hC dX8_payBack_16 rfl ?_
  refine J_put (ws' := stW G a (us (us S 16 1 ((S 16 1) - r)) 16 8 ((S 16 8) + r))) hC wu_X8 rfl tyX8_ok nmX8 dX8_payBack_17 0 13 (by decide) wf_X8_71 rfl rfl (Nat.le_of_ble_eq_true rfl) rfl rfl rfl ?_
  refine J_vret hC hR dX8_payBack_20 () ?_ ?_ (by decide) (by decide)
  · trivial
  · rfl

set_option maxRecDepth 100000 in
set_option maxHeartbeats 4000000 in
theorem c_X8_refusalToPrint (l : Launch) (G : gT) (a : Nat → Nat) (S : CT) (bc : Nat) (v : Int32) (d : Int32) (hbc : S 16 12 = nI bc) (bbc : bc ≤ 30) : MI l yX8_refusalToPrint cX8_refusalToPrint 3 (some .int) { frames := 1, cells := 0, slots := 0, locals := 23 } [.ref (a 0), .int v, .int d] G (stW G a S) (fun r (_ : Unit) => r = s_refusal S v d bc) (fun _ => stW G a S) := by
  refine jm_i (own := RX8) (by decide) rfl (Nat.le_of_ble_eq_true rfl) (fun x hl hC hR hN => ?_)
  subst hl
  refine J_iload_n hC dX8_refusalToPrint_0 2 rfl rfl ?_
  refine J_aload_n hC dX8_refusalToPrint_1 0 rfl rfl ?_
  refine J_get (v := .int (S 16 0)) hC wu_X8 rfl dX8_refusalToPrint_2 0 5 (by decide) wf_X8_46 rfl rfl ?_
  refine J_iconst (v := 1) hC dX8_refusalToPrint_5 rfl ?_
  refine J_iadd (v := (S 16 0) + 1) hC dX8_refusalToPrint_6 rfl ?_
  refine J_aload_n hC dX8_refusalToPrint_7 0 rfl rfl ?_
  refine J_get (v := .int (S 16 0)) hC wu_X8 rfl dX8_refusalToPrint_8 0 5 (by decide) wf_X8_46 rfl rfl ?_
  refine J_bipush (v := 30) hC dX8_refusalToPrint_11 (by decide +kernel) ?_
  refine J_iadd (v := (S 16 0) + 30) hC dX8_refusalToPrint_13 rfl ?_
  refine J_callSNi hC dX8_refusalToPrint_14 wln_X8_100 yi_X10_isBetween (c_X10_isBetween _ G (stW G a S) d ((S 16 0) + 1) ((S 16 0) + 30)) rfl rfl ⟨Nat.le_of_ble_eq_true rfl, Nat.le_of_ble_eq_true rfl⟩ (Nat.le_of_ble_eq_true rfl) (Nat.le_of_ble_eq_true rfl) (Nat.le_of_ble_eq_true rfl) (fun r u h_14 => ?_)
  rcases h_14 with ⟨rfl, c_14⟩ | ⟨rfl, c_14⟩
  · refine J_if_ne (tgt := 22) hC dX8_refusalToPrint_17 (by decide) (fun _ => ?_) (fun c => absurd c (by decide))
    refine J_aload_n hC dX8_refusalToPrint_22 0 rfl rfl ?_
    refine J_get (v := .ref (a 14)) hC wu_X8 rfl dX8_refusalToPrint_23 0 3 (by decide) wf_X8_35 rfl rfl ?_
    refine J_iload_n hC dX8_refusalToPrint_26 1 rfl rfl ?_
    refine J_iload_n hC dX8_refusalToPrint_27 2 rfl rfl ?_
    refine J_callVi hC dX8_refusalToPrint_28 wl_X8_104 yi_X0_placeOf (c_X0_placeOf _ G a S bc v d (hbc) (by omega)) rfl rfl 14 0 rfl rfl ⟨Nat.le_of_ble_eq_true rfl, Nat.le_of_ble_eq_true rfl⟩ (Nat.le_of_ble_eq_true rfl) (Nat.le_of_ble_eq_true rfl) (Nat.le_of_ble_eq_true rfl) (fun r u h_28 => ?_)
    subst h_28
    rcases placeOf_cases S v d bc with p_28 | ⟨k_28, hk_28, p_28, -, -⟩
    · refine J_topi p_28 ?_
      refine J_iconst (v := (-1)) hC dX8_refusalToPrint_31 rfl ?_
      refine J_ic_eq (tgt := 37) hC dX8_refusalToPrint_32 (by decide) (fun _ => ?_) (fun c => absurd (by decide) c)
      refine J_aload_n hC dX8_refusalToPrint_37 0 rfl rfl ?_
      refine J_get (v := .ref (a 14)) hC wu_X8 rfl dX8_refusalToPrint_38 0 3 (by decide) wf_X8_35 rfl rfl ?_
      refine J_get (v := .int (S 16 12)) hC wu_X0 rfl dX8_refusalToPrint_41 14 5 (by decide) wf_X8_78 rfl rfl ?_
      refine J_topi hbc ?_
      refine J_bipush (v := 30) hC dX8_refusalToPrint_44 (by decide +kernel) ?_
      refine J_ic_ltN (a := bc) (b := 30) (tgt := 53) hC dX8_refusalToPrint_46 (by decide) (by omega) (by omega) (fun (c_46 : bc < 30) => ?_) (fun (c_46 : 30 ≤ bc) => ?_)
      · refine J_iconst (v := 0) hC dX8_refusalToPrint_53 rfl ?_
        refine J_iret hC hR dX8_refusalToPrint_54 rfl () ?_ ?_ (by decide) (by decide)
        · rw [s_refusal, if_pos c_14, if_pos p_28, if_pos c_46]
        · rfl
      · refine J_iconst (v := 3) hC dX8_refusalToPrint_49 rfl ?_
        refine J_goto (tgt := 54) hC dX8_refusalToPrint_50 (by decide) ?_
        refine J_iret hC hR dX8_refusalToPrint_54 rfl () ?_ ?_ (by decide) (by decide)
        · rw [s_refusal, if_pos c_14, if_pos p_28, if_neg (by omega)]
        · rfl
    · refine J_topi p_28 ?_
      refine J_iconst (v := (-1)) hC dX8_refusalToPrint_31 rfl ?_
      refine J_ic_eq (tgt := 37) hC dX8_refusalToPrint_32 (by decide) (fun c => absurd c (nI_ne_m1 (by omega))) (fun _ => ?_)
      refine J_iconst (v := 2) hC dX8_refusalToPrint_35 rfl ?_
      refine J_iret hC hR dX8_refusalToPrint_36 rfl () ?_ ?_ (by decide) (by decide)
      · rw [s_refusal, if_pos c_14, if_neg (by rw [p_28]; exact nI_ne_m1 (by omega))]
      · rfl
  · refine J_if_ne (tgt := 22) hC dX8_refusalToPrint_17 (by decide) (fun c => absurd (by decide) c) (fun _ => ?_)
    refine J_iconst (v := 1) hC dX8_refusalToPrint_20 rfl ?_
    refine J_iret hC hR dX8_refusalToPrint_21 rfl () ?_ ?_ (by decide) (by decide)
    · rw [s_refusal, if_neg c_14]
    · rfl

set_option maxRecDepth 100000 in
set_option maxHeartbeats 4000000 in
theorem c_X8_canPayBackPage (l : Launch) (G : gT) (a : Nat → Nat) (S : CT) (bc : Nat) (pg : Nat) (hbc : S 16 12 = nI bc) (bbc : bc ≤ 30) (hpg : pg ≤ 30) : MI l yX8_canPayBackPage cX8_canPayBackPage 2 (some .boolean) { frames := 3, cells := 0, slots := 0, locals := 68 } [.ref (a 0), .int (nI pg)] G (stW G a S) (fun r (_ : Unit) => (r = 1 ∧ s_canPay S pg bc) ∨ (r = 0 ∧ ¬ (s_canPay S pg bc))) (fun _ => stW G a S) := by
  refine jm_i (own := RX8) (by decide) rfl (Nat.le_of_ble_eq_true rfl) (fun x hl hC hR hN => ?_)
  subst hl
  refine J_aload_n hC dX8_canPayBackPage_0 0 rfl rfl ?_
  refine J_get (v := .int (S 16 1)) hC wu_X8 rfl dX8_canPayBackPage_1 0 6 (by decide) wf_X8_50 rfl rfl ?_
  refine J_aload_n hC dX8_canPayBackPage_4 0 rfl rfl ?_
  refine J_get (v := .ref (a 14)) hC wu_X8 rfl dX8_canPayBackPage_5 0 3 (by decide) wf_X8_35 rfl rfl ?_
  refine J_iload_n hC dX8_canPayBackPage_8 1 rfl rfl ?_
  refine J_callVi hC dX8_canPayBackPage_9 wl_X8_108 yi_X0_paidForPage (c_X0_paidForPage _ G a S bc pg (hbc) (by omega) (by omega)) rfl rfl 14 0 rfl rfl ⟨Nat.le_of_ble_eq_true rfl, Nat.le_of_ble_eq_true rfl⟩ (Nat.le_of_ble_eq_true rfl) (Nat.le_of_ble_eq_true rfl) (Nat.le_of_ble_eq_true rfl) (fun r u h_9 => ?_)
  subst h_9
  refine J_ic_lt (tgt := 19) hC dX8_canPayBackPage_12 (by decide) (fun (c_12 : (S 16 1) < (s_paidForPage S pg bc)) => ?_) (fun (c_12 : ¬ (S 16 1) < (s_paidForPage S pg bc)) => ?_)
  · refine J_iconst (v := 0) hC dX8_canPayBackPage_19 rfl ?_
    refine J_iret hC hR dX8_canPayBackPage_20 rfl () ?_ ?_ (by decide) (by decide)
    · exact Or.inr ⟨rfl, fun h => h c_12⟩
    · rfl
  · refine J_iconst (v := 1) hC dX8_canPayBackPage_15 rfl ?_
    refine J_goto (tgt := 20) hC dX8_canPayBackPage_16 (by decide) ?_
    refine J_iret hC hR dX8_canPayBackPage_20 rfl () ?_ ?_ (by decide) (by decide)
    · exact Or.inl ⟨rfl, c_12⟩
    · rfl

set_option maxRecDepth 100000 in
set_option maxHeartbeats 4000000 in
theorem c_X8_clear (l : Launch) (G : gT) (a : Nat → Nat) (S : CT) : MV l yX8_clear cX8_clear 2 { frames := 0, cells := 0, slots := 0, locals := 0 } [.ref (a 0)] G (stW G a S) (fun (_ : Unit) => True) (fun _ => stW G a (s_clear S)) := by
  refine jm_v (own := RX8) (by decide) rfl (Nat.le_of_ble_eq_true rfl) (fun x hl hC hR hN => ?_)
  subst hl
  refine J_aload_n hC dX8_clear_0 0 rfl rfl ?_
  refine J_get (v := .ref (a 1)) hC wu_X8 rfl dX8_clear_1 0 0 (by decide) wf_X8_12 rfl rfl ?_
  refine J_iconst (v := 0) hC dX8_clear_4 rfl ?_
  refine J_put (ws' := stW G a (us S 16 9 0)) hC wu_X9 rfl tyX9_ok nmX9 dX8_clear_5 1 3 (by decide) wf_X8_74 rfl rfl (Nat.le_of_ble_eq_true rfl) rfl rfl rfl ?_
  refine J_aload_n hC dX8_clear_8 0 rfl rfl ?_
  refine J_get (v := .ref (a 5)) hC wu_X8 rfl dX8_clear_9 0 1 (by decide) wf_X8_21 rfl rfl ?_
  refine J_iconst (v := 0) hC dX8_clear_12 rfl ?_
  refine J_put (ws' := stW G a (us (us S 16 9 0) 16 10 0)) hC wu_X2 rfl tyX2_ok nmX2 dX8_clear_13 5 5 (by decide) wf_X8_77 rfl rfl (Nat.le_of_ble_eq_true rfl) rfl rfl rfl ?_
  refine J_aload_n hC dX8_clear_16 0 rfl rfl ?_
  refine J_get (v := .ref (a 14)) hC wu_X8 rfl dX8_clear_17 0 3 (by decide) wf_X8_35 rfl rfl ?_
  refine J_iconst (v := 0) hC dX8_clear_20 rfl ?_
  refine J_put (ws' := stW G a (us (us (us S 16 9 0) 16 10 0) 16 12 0)) hC wu_X0 rfl tyX0_ok nmX0 dX8_clear_21 14 5 (by decide) wf_X8_78 rfl rfl (Nat.le_of_ble_eq_true rfl) rfl rfl rfl ?_
  refine J_aload_n hC dX8_clear_24 0 rfl rfl ?_
  refine J_get (v := .ref (a 20)) hC wu_X8 rfl dX8_clear_25 0 4 (by decide) wf_X8_42 rfl rfl ?_
  refine J_iconst (v := 0) hC dX8_clear_28 rfl ?_
  refine J_put (ws' := stW G a (us (us (us (us S 16 9 0) 16 10 0) 16 12 0) 16 13 0)) hC wu_X4 rfl tyX4_ok nmX4 dX8_clear_29 20 1 (by decide) wf_X8_79 rfl rfl (Nat.le_of_ble_eq_true rfl) rfl rfl rfl ?_
  refine J_iconst (v := 0) hC dX8_clear_32 rfl ?_
  refine J_istore_n hC [(1, .int 0), (0, .ref (a 0))] dX8_clear_33 rfl (by decide) rfl ?_
  refine J_iload_n hC dX8_clear_34 0 rfl rfl ?_
  refine J_iconst (v := 2) hC dX8_clear_35 rfl ?_
  refine J_ic_gt (tgt := 55) hC dX8_clear_36 (by decide) (fun c => absurd c (by decide)) (fun _ => ?_)
  refine J_aload_n hC dX8_clear_39 1 rfl rfl ?_
  refine J_get (v := .ref (a 11)) hC wu_X8 rfl dX8_clear_40 0 2 (by decide) wf_X8_28 rfl rfl ?_
  refine J_get (v := .ref (a 13)) hC wu_X7 rfl dX8_clear_43 11 1 (by decide) wf_X8_80 rfl rfl ?_
  refine J_iload_n hC dX8_clear_46 0 rfl rfl ?_
  refine J_iconst (v := 0) hC dX8_clear_47 rfl ?_
  refine J_iast (i := 0) (ws' := stW G a (us (us (us (us (us S 16 9 0) 16 10 0) 16 12 0) 16 13 0) 9 0 0)) hC dX8_clear_48 13 rfl (by omega) (by decide) rfl ?_
  refine J_iinc hC [(1, .int 1), (0, .ref (a 0))] dX8_clear_49 0 rfl (by decide +kernel) (by decide) rfl ?_
  refine J_goto (tgt := 34) hC dX8_clear_52 (by decide) ?_
  refine J_iload_n hC dX8_clear_34 0 rfl rfl ?_
  refine J_iconst (v := 2) hC dX8_clear_35 rfl ?_
  refine J_ic_gt (tgt := 55) hC dX8_clear_36 (by decide) (fun c => absurd c (by decide)) (fun _ => ?_)
  refine J_aload_n hC dX8_clear_39 1 rfl rfl ?_
  refine J_get (v := .ref (a 11)) hC wu_X8 rfl dX8_clear_40 0 2 (by decide) wf_X8_28 rfl rfl ?_
  refine J_get (v := .ref (a 13)) hC wu_X7 rfl dX8_clear_43 11 1 (by decide) wf_X8_80 rfl rfl ?_
  refine J_iload_n hC dX8_clear_46 0 rfl rfl ?_
  refine J_iconst (v := 0) hC dX8_clear_47 rfl ?_
  refine J_iast (i := 1) (ws' := stW G a (us (us (us (us (us (us S 16 9 0) 16 10 0) 16 12 0) 16 13 0) 9 0 0) 9 1 0)) hC dX8_clear_48 13 rfl (by omega) (by decide) rfl ?_
  refine J_iinc hC [(1, .int 2), (0, .ref (a 0))] dX8_clear_49 0 rfl (by decide +kernel) (by decide) rfl ?_
  refine J_goto (tgt := 34) hC dX8_clear_52 (by decide) ?_
  refine J_iload_n hC dX8_clear_34 0 rfl rfl ?_
  refine J_iconst (v := 2) hC dX8_clear_35 rfl ?_
  refine J_ic_gt (tgt := 55) hC dX8_clear_36 (by decide) (fun c => absurd c (by decide)) (fun _ => ?_)
  refine J_aload_n hC dX8_clear_39 1 rfl rfl ?_
  refine J_get (v := .ref (a 11)) hC wu_X8 rfl dX8_clear_40 0 2 (by decide) wf_X8_28 rfl rfl ?_
  refine J_get (v := .ref (a 13)) hC wu_X7 rfl dX8_clear_43 11 1 (by decide) wf_X8_80 rfl rfl ?_
  refine J_iload_n hC dX8_clear_46 0 rfl rfl ?_
  refine J_iconst (v := 0) hC dX8_clear_47 rfl ?_
  refine J_iast (i := 2) (ws' := stW G a (us (us (us (us (us (us (us S 16 9 0) 16 10 0) 16 12 0) 16 13 0) 9 0 0) 9 1 0) 9 2 0)) hC dX8_clear_48 13 rfl (by omega) (by decide) rfl ?_
  refine J_iinc hC [(1, .int 3), (0, .ref (a 0))] dX8_clear_49 0 rfl (by decide +kernel) (by decide) rfl ?_
  refine J_goto (tgt := 34) hC dX8_clear_52 (by decide) ?_
  refine J_iload_n hC dX8_clear_34 0 rfl rfl ?_
  refine J_iconst (v := 2) hC dX8_clear_35 rfl ?_
  refine J_ic_gt (tgt := 55) hC dX8_clear_36 (by decide) (fun _ => ?_) (fun c => absurd (by decide) c)
  refine J_aload_n hC dX8_clear_55 1 rfl rfl ?_
  refine J_iconst (v := 0) hC dX8_clear_56 rfl ?_
  refine J_put (ws' := stW G a (us (us (us (us (us (us (us (us S 16 9 0) 16 10 0) 16 12 0) 16 13 0) 9 0 0) 9 1 0) 9 2 0) 16 0 0)) hC wu_X8 rfl tyX8_ok nmX8 dX8_clear_57 0 5 (by decide) wf_X8_46 rfl rfl (Nat.le_of_ble_eq_true rfl) rfl rfl rfl ?_
  refine J_aload_n hC dX8_clear_60 1 rfl rfl ?_
  refine J_iconst (v := 0) hC dX8_clear_61 rfl ?_
  refine J_put (ws' := stW G a (us (us (us (us (us (us (us (us (us S 16 9 0) 16 10 0) 16 12 0) 16 13 0) 9 0 0) 9 1 0) 9 2 0) 16 0 0) 16 1 0)) hC wu_X8 rfl tyX8_ok nmX8 dX8_clear_62 0 6 (by decide) wf_X8_50 rfl rfl (Nat.le_of_ble_eq_true rfl) rfl rfl rfl ?_
  refine J_aload_n hC dX8_clear_65 1 rfl rfl ?_
  refine J_iconst (v := 0) hC dX8_clear_66 rfl ?_
  refine J_put (ws' := stW G a (us (us (us (us (us (us (us (us (us (us S 16 9 0) 16 10 0) 16 12 0) 16 13 0) 9 0 0) 9 1 0) 9 2 0) 16 0 0) 16 1 0) 16 2 0)) hC wu_X8 rfl tyX8_ok nmX8 dX8_clear_67 0 7 (by decide) wf_X8_53 rfl rfl (Nat.le_of_ble_eq_true rfl) rfl rfl rfl ?_
  refine J_aload_n hC dX8_clear_70 1 rfl rfl ?_
  refine J_iconst (v := 0) hC dX8_clear_71 rfl ?_
  refine J_put (ws' := stW G a (us (us (us (us (us (us (us (us (us (us (us S 16 9 0) 16 10 0) 16 12 0) 16 13 0) 9 0 0) 9 1 0) 9 2 0) 16 0 0) 16 1 0) 16 2 0) 16 3 0)) hC wu_X8 rfl tyX8_ok nmX8 dX8_clear_72 0 8 (by decide) wf_X8_56 rfl rfl (Nat.le_of_ble_eq_true rfl) rfl rfl rfl ?_
  refine J_aload_n hC dX8_clear_75 1 rfl rfl ?_
  refine J_iconst (v := 0) hC dX8_clear_76 rfl ?_
  refine J_put (ws' := stW G a (us (us (us (us (us (us (us (us (us (us (us (us S 16 9 0) 16 10 0) 16 12 0) 16 13 0) 9 0 0) 9 1 0) 9 2 0) 16 0 0) 16 1 0) 16 2 0) 16 3 0) 16 4 0)) hC wu_X8 rfl tyX8_ok nmX8 dX8_clear_77 0 9 (by decide) wf_X8_59 rfl rfl (Nat.le_of_ble_eq_true rfl) rfl rfl rfl ?_
  refine J_aload_n hC dX8_clear_80 1 rfl rfl ?_
  refine J_iconst (v := 0) hC dX8_clear_81 rfl ?_
  refine J_put (ws' := stW G a (us (us (us (us (us (us (us (us (us (us (us (us (us S 16 9 0) 16 10 0) 16 12 0) 16 13 0) 9 0 0) 9 1 0) 9 2 0) 16 0 0) 16 1 0) 16 2 0) 16 3 0) 16 4 0) 16 5 0)) hC wu_X8 rfl tyX8_ok nmX8 dX8_clear_82 0 10 (by decide) wf_X8_62 rfl rfl (Nat.le_of_ble_eq_true rfl) rfl rfl rfl ?_
  refine J_aload_n hC dX8_clear_85 1 rfl rfl ?_
  refine J_iconst (v := 0) hC dX8_clear_86 rfl ?_
  refine J_put (ws' := stW G a (us (us (us (us (us (us (us (us (us (us (us (us (us (us S 16 9 0) 16 10 0) 16 12 0) 16 13 0) 9 0 0) 9 1 0) 9 2 0) 16 0 0) 16 1 0) 16 2 0) 16 3 0) 16 4 0) 16 5 0) 16 6 0)) hC wu_X8 rfl tyX8_ok nmX8 dX8_clear_87 0 11 (by decide) wf_X8_65 rfl rfl (Nat.le_of_ble_eq_true rfl) rfl rfl rfl ?_
  refine J_aload_n hC dX8_clear_90 1 rfl rfl ?_
  refine J_iconst (v := 0) hC dX8_clear_91 rfl ?_
  refine J_put (ws' := stW G a (us (us (us (us (us (us (us (us (us (us (us (us (us (us (us S 16 9 0) 16 10 0) 16 12 0) 16 13 0) 9 0 0) 9 1 0) 9 2 0) 16 0 0) 16 1 0) 16 2 0) 16 3 0) 16 4 0) 16 5 0) 16 6 0) 16 7 0)) hC wu_X8 rfl tyX8_ok nmX8 dX8_clear_92 0 12 (by decide) wf_X8_68 rfl rfl (Nat.le_of_ble_eq_true rfl) rfl rfl rfl ?_
  refine J_aload_n hC dX8_clear_95 1 rfl rfl ?_
  refine J_iconst (v := 0) hC dX8_clear_96 rfl ?_
  refine J_put (ws' := stW G a (us (us (us (us (us (us (us (us (us (us (us (us (us (us (us (us S 16 9 0) 16 10 0) 16 12 0) 16 13 0) 9 0 0) 9 1 0) 9 2 0) 16 0 0) 16 1 0) 16 2 0) 16 3 0) 16 4 0) 16 5 0) 16 6 0) 16 7 0) 16 8 0)) hC wu_X8 rfl tyX8_ok nmX8 dX8_clear_97 0 13 (by decide) wf_X8_71 rfl rfl (Nat.le_of_ble_eq_true rfl) rfl rfl rfl ?_
  refine J_vret hC hR dX8_clear_100 () ?_ ?_ (by decide) (by decide)
  · trivial
  · rfl

set_option maxRecDepth 100000 in
set_option maxHeartbeats 4000000 in
theorem c_X8_sellAt (l : Launch) (G : gT) (a : Nat → Nat) (S : CT) (bc : Nat) (vc : Nat) (fr : Nat) (hbc : S 16 12 = nI bc) (bbc : bc ≤ 30) (hvc : S 16 9 = nI vc) (bvc : vc ≤ 6) (hf : fr < 6) : MV l yX8_sellAt cX8_sellAt 7 { frames := 2, cells := 0, slots := 0, locals := 43 } [.ref (a 0), .int (nI fr)] G (stW G a S) (fun (_ : Unit) => True) (fun _ => stW G a (s_sellAt S fr bc vc)) := by
  refine jm_v (own := RX8) (by decide) rfl (Nat.le_of_ble_eq_true rfl) (fun x hl hC hR hN => ?_)
  subst hl
  have key : ∀ fuel : Nat, (∀ (i : Nat) (T : CT) (left : Int32), (i ≤ bc) → (T 16 12 = nI bc) → (T 16 9 = nI vc) → (s_sellAt S fr bc vc = (fo (s_sellB (S 4 fr) fr vc) i (bc - i) (T, left)).1) → bc - i < fuel → J x G (stW G a T) 0 0 [(0, .ref (a 0)), (1, .int (nI fr)), (2, .int (S 4 fr)), (3, .int left), (4, .int (nI i))] [] 23) := by
    intro fuel
    induction fuel with
    | zero => exact fun _ _ _ _ _ _ _ h => absurd h (Nat.not_lt_zero _)
    | succ fuel ih =>
      intro i T left hi hTb hTv hI hmu
      refine J_iload hC dX8_sellAt_23 4 rfl ?_
      refine J_aload_n hC dX8_sellAt_25 0 rfl rfl ?_
      refine J_get (v := .ref (a 14)) hC wu_X8 rfl dX8_sellAt_26 0 3 (by decide) wf_X8_35 rfl rfl ?_
      refine J_get (v := .int (T 16 12)) hC wu_X0 rfl dX8_sellAt_29 14 5 (by decide) wf_X8_78 rfl rfl ?_
      refine J_topi hTb ?_
      refine J_ic_geN (a := i) (b := bc) (tgt := 178) hC dX8_sellAt_32 (by decide) (by omega) (by omega) (fun (c_32 : bc ≤ i) => ?_) (fun (c_32 : i < bc) => ?_)
      · refine J_vret hC hR dX8_sellAt_178 () ?_ ?_ (by decide) (by decide)
        · trivial
        · rw [hI, fo_done c_32]
      · refine J_aload_n hC dX8_sellAt_35 0 rfl rfl ?_
        refine J_get (v := .ref (a 14)) hC wu_X8 rfl dX8_sellAt_36 0 3 (by decide) wf_X8_35 rfl rfl ?_
        refine J_get (v := .ref (a 15)) hC wu_X0 rfl dX8_sellAt_39 14 0 (by decide) wf_X8_118 rfl rfl ?_
        refine J_iload hC dX8_sellAt_42 4 rfl ?_
        refine J_iald (i := i) (v := T 10 i) hC dX8_sellAt_44 15 rfl (by omega) (by decide) rfl ?_
        refine J_iload_n hC dX8_sellAt_45 2 rfl rfl ?_
        refine J_ic_ne (tgt := 172) hC dX8_sellAt_46 (by decide) (fun (c_46 : ¬ (T 10 i) = (S 4 fr)) => ?_) (fun (c_46 : (T 10 i) = (S 4 fr)) => ?_)
        · refine J_iinc hC [(4, .int (nI (i + 1))), (0, .ref (a 0)), (1, .int (nI fr)), (2, .int (S 4 fr)), (3, .int left)] dX8_sellAt_172 4 rfl (nI_inc _) (by decide) rfl ?_
          refine J_goto (tgt := 23) hC dX8_sellAt_175 (by decide) ?_
          refine J_lv (lv' := [(0, .ref (a 0)), (1, .int (nI fr)), (2, .int (S 4 fr)), (3, .int left), (4, .int (nI (i + 1)))]) [1, 2, 3, 4, 0] rfl ?_
          exact ih (i + 1) T left (by omega) (hTb) (hTv) (hI.trans (congrArg Prod.fst ((fo_step c_32).trans (congrArg _ (by rw [s_sellB, if_neg c_46] <;> rfl))))) (by omega)
        · refine J_aload_n hC dX8_sellAt_49 0 rfl rfl ?_
          refine J_get (v := .ref (a 14)) hC wu_X8 rfl dX8_sellAt_50 0 3 (by decide) wf_X8_35 rfl rfl ?_
          refine J_get (v := .ref (a 16)) hC wu_X0 rfl dX8_sellAt_53 14 1 (by decide) wf_X8_155 rfl rfl ?_
          refine J_iload hC dX8_sellAt_56 4 rfl ?_
          refine J_iald (i := i) (v := T 11 i) hC dX8_sellAt_58 16 rfl (by omega) (by decide) rfl ?_
          refine J_aload_n hC dX8_sellAt_59 0 rfl rfl ?_
          refine J_get (v := .int (T 16 0)) hC wu_X8 rfl dX8_sellAt_60 0 5 (by decide) wf_X8_46 rfl rfl ?_
          refine J_ic_le (tgt := 172) hC dX8_sellAt_63 (by decide) (fun (c_63 : (T 11 i) ≤ (T 16 0)) => ?_) (fun (c_63 : ¬ (T 11 i) ≤ (T 16 0)) => ?_)
          · refine J_iinc hC [(4, .int (nI (i + 1))), (0, .ref (a 0)), (1, .int (nI fr)), (2, .int (S 4 fr)), (3, .int left)] dX8_sellAt_172 4 rfl (nI_inc _) (by decide) rfl ?_
            refine J_goto (tgt := 23) hC dX8_sellAt_175 (by decide) ?_
            refine J_lv (lv' := [(0, .ref (a 0)), (1, .int (nI fr)), (2, .int (S 4 fr)), (3, .int left), (4, .int (nI (i + 1)))]) [1, 2, 3, 4, 0] rfl ?_
            exact ih (i + 1) T left (by omega) (hTb) (hTv) (hI.trans (congrArg Prod.fst ((fo_step c_32).trans (congrArg _ (by rw [s_sellB, if_pos c_46, if_pos c_63] <;> rfl))))) (by omega)
          · refine J_iload_n hC dX8_sellAt_66 3 rfl rfl ?_
            refine J_aload_n hC dX8_sellAt_67 0 rfl rfl ?_
            refine J_get (v := .ref (a 1)) hC wu_X8 rfl dX8_sellAt_68 0 0 (by decide) wf_X8_12 rfl rfl ?_
            refine J_iload_n hC dX8_sellAt_71 2 rfl rfl ?_
            refine J_aload_n hC dX8_sellAt_72 0 rfl rfl ?_
            refine J_get (v := .ref (a 14)) hC wu_X8 rfl dX8_sellAt_73 0 3 (by decide) wf_X8_35 rfl rfl ?_
            refine J_get (v := .ref (a 18)) hC wu_X0 rfl dX8_sellAt_76 14 3 (by decide) wf_X8_124 rfl rfl ?_
            refine J_iload hC dX8_sellAt_79 4 rfl ?_
            refine J_iald (i := i) (v := T 13 i) hC dX8_sellAt_81 18 rfl (by omega) (by decide) rfl ?_
            refine J_callVi hC dX8_sellAt_82 wl_X8_158 yi_X9_wish (c_X9_wish _ G a T vc (S 4 fr) (T 13 i) (hTv) (by omega)) rfl rfl 1 9 rfl rfl ⟨Nat.le_of_ble_eq_true rfl, Nat.le_of_ble_eq_true rfl⟩ (Nat.le_of_ble_eq_true rfl) (Nat.le_of_ble_eq_true rfl) (Nat.le_of_ble_eq_true rfl) (fun r u h_82 => ?_)
            subst h_82
            refine J_mmin (v := if (s_wish T (S 4 fr) (T 13 i) vc) < left then s_wish T (S 4 fr) (T 13 i) vc else left) hC dX8_sellAt_85 wl_X8_161 (Nat.le_of_ble_eq_true rfl) (Nat.le_of_ble_eq_true rfl) (Nat.le_of_ble_eq_true rfl) (Nat.le_of_ble_eq_true rfl) rfl ?_
            refine J_istore hC [(5, .int (if (s_wish T (S 4 fr) (T 13 i) vc) < left then s_wish T (S 4 fr) (T 13 i) vc else left)), (0, .ref (a 0)), (1, .int (nI fr)), (2, .int (S 4 fr)), (3, .int left), (4, .int (nI i))] dX8_sellAt_88 (by decide) rfl ?_
            refine J_iload hC dX8_sellAt_90 0 rfl ?_
            refine J_aload_n hC dX8_sellAt_92 1 rfl rfl ?_
            refine J_get (v := .ref (a 5)) hC wu_X8 rfl dX8_sellAt_93 0 1 (by decide) wf_X8_21 rfl rfl ?_
            refine J_get (v := .ref (a 10)) hC wu_X2 rfl dX8_sellAt_96 5 4 (by decide) wf_X8_166 rfl rfl ?_
            refine J_iload_n hC dX8_sellAt_99 2 rfl rfl ?_
            refine J_iald (i := fr) (v := T 7 fr) hC dX8_sellAt_100 10 rfl (by omega) (by decide) rfl ?_
            refine J_imul (v := (if (s_wish T (S 4 fr) (T 13 i) vc) < left then s_wish T (S 4 fr) (T 13 i) vc else left) * (T 7 fr)) hC dX8_sellAt_101 rfl ?_
            refine J_istore hC [(6, .int ((if (s_wish T (S 4 fr) (T 13 i) vc) < left then s_wish T (S 4 fr) (T 13 i) vc else left) * (T 7 fr))), (5, .int (if (s_wish T (S 4 fr) (T 13 i) vc) < left then s_wish T (S 4 fr) (T 13 i) vc else left)), (0, .ref (a 0)), (1, .int (nI fr)), (2, .int (S 4 fr)), (3, .int left), (4, .int (nI i))] dX8_sellAt_102 (by decide) rfl ?_
            refine J_iload_n hC dX8_sellAt_104 5 rfl rfl ?_
            refine J_iload hC dX8_sellAt_105 1 rfl ?_
            refine J_isub (v := left - (if (s_wish T (S 4 fr) (T 13 i) vc) < left then s_wish T (S 4 fr) (T 13 i) vc else left)) hC dX8_sellAt_107 rfl ?_
            refine J_istore_n hC [(3, .int (left - (if (s_wish T (S 4 fr) (T 13 i) vc) < left then s_wish T (S 4 fr) (T 13 i) vc else left))), (6, .int ((if (s_wish T (S 4 fr) (T 13 i) vc) < left then s_wish T (S 4 fr) (T 13 i) vc else left) * (T 7 fr))), (5, .int (if (s_wish T (S 4 fr) (T 13 i) vc) < left then s_wish T (S 4 fr) (T 13 i) vc else left)), (0, .ref (a 0)), (1, .int (nI fr)), (2, .int (S 4 fr)), (4, .int (nI i))] dX8_sellAt_108 rfl (by decide) rfl ?_
            refine J_aload_n hC dX8_sellAt_109 3 rfl rfl ?_
            refine J_get (v := .ref (a 14)) hC wu_X8 rfl dX8_sellAt_110 0 3 (by decide) wf_X8_35 rfl rfl ?_
            refine J_get (v := .ref (a 18)) hC wu_X0 rfl dX8_sellAt_113 14 3 (by decide) wf_X8_124 rfl rfl ?_
            refine J_iload hC dX8_sellAt_116 6 rfl ?_
            refine J_dup2 hC dX8_sellAt_118 rfl rfl ?_
            refine J_iald (i := i) (v := T 13 i) hC dX8_sellAt_119 18 rfl (by omega) (by decide) rfl ?_
            refine J_iload hC dX8_sellAt_120 2 rfl ?_
            refine J_iadd (v := (T 13 i) + (if (s_wish T (S 4 fr) (T 13 i) vc) < left then s_wish T (S 4 fr) (T 13 i) vc else left)) hC dX8_sellAt_122 rfl ?_
            refine J_iast (i := i) (ws' := stW G a (us T 13 i ((T 13 i) + (if (s_wish T (S 4 fr) (T 13 i) vc) < left then s_wish T (S 4 fr) (T 13 i) vc else left)))) hC dX8_sellAt_123 18 rfl (by omega) (by decide) rfl ?_
            refine J_aload_n hC dX8_sellAt_124 3 rfl rfl ?_
            refine J_get (v := .ref (a 14)) hC wu_X8 rfl dX8_sellAt_125 0 3 (by decide) wf_X8_35 rfl rfl ?_
            refine J_get (v := .ref (a 19)) hC wu_X0 rfl dX8_sellAt_128 14 4 (by decide) wf_X8_169 rfl rfl ?_
            refine J_iload hC dX8_sellAt_131 6 rfl ?_
            refine J_dup2 hC dX8_sellAt_133 rfl rfl ?_
            refine J_iald (i := i) (v := T 14 i) hC dX8_sellAt_134 19 rfl (by omega) (by decide) rfl ?_
            refine J_iload hC dX8_sellAt_135 1 rfl ?_
            refine J_iadd (v := (T 14 i) + ((if (s_wish T (S 4 fr) (T 13 i) vc) < left then s_wish T (S 4 fr) (T 13 i) vc else left) * (T 7 fr))) hC dX8_sellAt_137 rfl ?_
            refine J_iast (i := i) (ws' := stW G a (us (us T 13 i ((T 13 i) + (if (s_wish T (S 4 fr) (T 13 i) vc) < left then s_wish T (S 4 fr) (T 13 i) vc else left))) 14 i ((T 14 i) + ((if (s_wish T (S 4 fr) (T 13 i) vc) < left then s_wish T (S 4 fr) (T 13 i) vc else left) * (T 7 fr))))) hC dX8_sellAt_138 19 rfl (by omega) (by decide) rfl ?_
            refine J_aload_n hC dX8_sellAt_139 3 rfl rfl ?_
            refine J_dup hC dX8_sellAt_140 rfl ?_
            refine J_get (v := .int (T 16 5)) hC wu_X8 rfl dX8_sellAt_141 0 10 (by decide) wf_X8_62 rfl rfl ?_
            refine J_iload hC dX8_sellAt_144 2 rfl ?_
            refine J_iadd (v := (T 16 5) + (if (s_wish T (S 4 fr) (T 13 i) vc) < left then s_wish T (S 4 fr) (T 13 i) vc else left)) hC dX8_sellAt_146 rfl ?_
            refine J_put (ws' := stW G a (us (us (us T 13 i ((T 13 i) + (if (s_wish T (S 4 fr) (T 13 i) vc) < left then s_wish T (S 4 fr) (T 13 i) vc else left))) 14 i ((T 14 i) + ((if (s_wish T (S 4 fr) (T 13 i) vc) < left then s_wish T (S 4 fr) (T 13 i) vc else left) * (T 7 fr)))) 16 5 ((T 16 5) + (if (s_wish T (S 4 fr) (T 13 i) vc) < left then s_wish T (S 4 fr) (T 13 i) vc else left)))) hC wu_X8 rfl tyX8_ok nmX8 dX8_sellAt_147 0 10 (by decide) wf_X8_62 rfl rfl (Nat.le_of_ble_eq_true rfl) rfl rfl rfl ?_
            refine J_aload_n hC dX8_sellAt_150 3 rfl rfl ?_
            refine J_dup hC dX8_sellAt_151 rfl ?_
            refine J_get (v := .int (T 16 7)) hC wu_X8 rfl dX8_sellAt_152 0 12 (by decide) wf_X8_68 rfl rfl ?_
            refine J_iload hC dX8_sellAt_155 1 rfl ?_
            refine J_iadd (v := (T 16 7) + ((if (s_wish T (S 4 fr) (T 13 i) vc) < left then s_wish T (S 4 fr) (T 13 i) vc else left) * (T 7 fr))) hC dX8_sellAt_157 rfl ?_
            refine J_put (ws' := stW G a (us (us (us (us T 13 i ((T 13 i) + (if (s_wish T (S 4 fr) (T 13 i) vc) < left then s_wish T (S 4 fr) (T 13 i) vc else left))) 14 i ((T 14 i) + ((if (s_wish T (S 4 fr) (T 13 i) vc) < left then s_wish T (S 4 fr) (T 13 i) vc else left) * (T 7 fr)))) 16 5 ((T 16 5) + (if (s_wish T (S 4 fr) (T 13 i) vc) < left then s_wish T (S 4 fr) (T 13 i) vc else left))) 16 7 ((T 16 7) + ((if (s_wish T (S 4 fr) (T 13 i) vc) < left then s_wish T (S 4 fr) (T 13 i) vc else left) * (T 7 fr))))) hC wu_X8 rfl tyX8_ok nmX8 dX8_sellAt_158 0 12 (by decide) wf_X8_68 rfl rfl (Nat.le_of_ble_eq_true rfl) rfl rfl rfl ?_
            refine J_aload_n hC dX8_sellAt_161 3 rfl rfl ?_
            refine J_dup hC dX8_sellAt_162 rfl ?_
            refine J_get (v := .int (T 16 1)) hC wu_X8 rfl dX8_sellAt_163 0 6 (by decide) wf_X8_50 rfl rfl ?_
            refine J_iload hC dX8_sellAt_166 1 rfl ?_
            refine J_iadd (v := (T 16 1) + ((if (s_wish T (S 4 fr) (T 13 i) vc) < left then s_wish T (S 4 fr) (T 13 i) vc else left) * (T 7 fr))) hC dX8_sellAt_168 rfl ?_
            refine J_put (ws' := stW G a (us (us (us (us (us T 13 i ((T 13 i) + (if (s_wish T (S 4 fr) (T 13 i) vc) < left then s_wish T (S 4 fr) (T 13 i) vc else left))) 14 i ((T 14 i) + ((if (s_wish T (S 4 fr) (T 13 i) vc) < left then s_wish T (S 4 fr) (T 13 i) vc else left) * (T 7 fr)))) 16 5 ((T 16 5) + (if (s_wish T (S 4 fr) (T 13 i) vc) < left then s_wish T (S 4 fr) (T 13 i) vc else left))) 16 7 ((T 16 7) + ((if (s_wish T (S 4 fr) (T 13 i) vc) < left then s_wish T (S 4 fr) (T 13 i) vc else left) * (T 7 fr)))) 16 1 ((T 16 1) + ((if (s_wish T (S 4 fr) (T 13 i) vc) < left then s_wish T (S 4 fr) (T 13 i) vc else left) * (T 7 fr))))) hC wu_X8 rfl tyX8_ok nmX8 dX8_sellAt_169 0 6 (by decide) wf_X8_50 rfl rfl (Nat.le_of_ble_eq_true rfl) rfl rfl rfl ?_
            refine J_iinc hC [(4, .int (nI (i + 1))), (3, .int (left - (if (s_wish T (S 4 fr) (T 13 i) vc) < left then s_wish T (S 4 fr) (T 13 i) vc else left))), (6, .int ((if (s_wish T (S 4 fr) (T 13 i) vc) < left then s_wish T (S 4 fr) (T 13 i) vc else left) * (T 7 fr))), (5, .int (if (s_wish T (S 4 fr) (T 13 i) vc) < left then s_wish T (S 4 fr) (T 13 i) vc else left)), (0, .ref (a 0)), (1, .int (nI fr)), (2, .int (S 4 fr))] dX8_sellAt_172 6 rfl (nI_inc _) (by decide) rfl ?_
            refine J_goto (tgt := 23) hC dX8_sellAt_175 (by decide) ?_
            refine J_lv (lv' := [(0, .ref (a 0)), (1, .int (nI fr)), (2, .int (S 4 fr)), (3, .int (left - (if (s_wish T (S 4 fr) (T 13 i) vc) < left then s_wish T (S 4 fr) (T 13 i) vc else left))), (4, .int (nI (i + 1)))]) [4, 5, 6, 1, 0] rfl ?_
            exact ih (i + 1) (us (us (us (us (us T 13 i ((T 13 i) + (if (s_wish T (S 4 fr) (T 13 i) vc) < left then s_wish T (S 4 fr) (T 13 i) vc else left))) 14 i ((T 14 i) + ((if (s_wish T (S 4 fr) (T 13 i) vc) < left then s_wish T (S 4 fr) (T 13 i) vc else left) * (T 7 fr)))) 16 5 ((T 16 5) + (if (s_wish T (S 4 fr) (T 13 i) vc) < left then s_wish T (S 4 fr) (T 13 i) vc else left))) 16 7 ((T 16 7) + ((if (s_wish T (S 4 fr) (T 13 i) vc) < left then s_wish T (S 4 fr) (T 13 i) vc else left) * (T 7 fr)))) 16 1 ((T 16 1) + ((if (s_wish T (S 4 fr) (T 13 i) vc) < left then s_wish T (S 4 fr) (T 13 i) vc else left) * (T 7 fr)))) (left - (if (s_wish T (S 4 fr) (T 13 i) vc) < left then s_wish T (S 4 fr) (T 13 i) vc else left)) (by omega) (hTb) (hTv) (hI.trans (congrArg Prod.fst ((fo_step c_32).trans (congrArg _ (by rw [s_sellB, if_pos c_46, if_neg c_63] <;> rfl))))) (by omega)
  refine J_aload_n hC dX8_sellAt_0 0 rfl rfl ?_
  refine J_get (v := .ref (a 5)) hC wu_X8 rfl dX8_sellAt_1 0 1 (by decide) wf_X8_21 rfl rfl ?_
  refine J_get (v := .ref (a 7)) hC wu_X2 rfl dX8_sellAt_4 5 1 (by decide) wf_X8_151 rfl rfl ?_
  refine J_iload_n hC dX8_sellAt_7 1 rfl rfl ?_
  refine J_iald (i := fr) (v := S 4 fr) hC dX8_sellAt_8 7 rfl (by omega) (by decide) rfl ?_
  refine J_istore_n hC [(2, .int (S 4 fr)), (0, .ref (a 0)), (1, .int (nI fr))] dX8_sellAt_9 rfl (by decide) rfl ?_
  refine J_aload_n hC dX8_sellAt_10 1 rfl rfl ?_
  refine J_get (v := .ref (a 5)) hC wu_X8 rfl dX8_sellAt_11 0 1 (by decide) wf_X8_21 rfl rfl ?_
  refine J_get (v := .ref (a 9)) hC wu_X2 rfl dX8_sellAt_14 5 3 (by decide) wf_X8_152 rfl rfl ?_
  refine J_iload_n hC dX8_sellAt_17 2 rfl rfl ?_
  refine J_iald (i := fr) (v := S 6 fr) hC dX8_sellAt_18 9 rfl (by omega) (by decide) rfl ?_
  refine J_istore_n hC [(3, .int (S 6 fr)), (2, .int (S 4 fr)), (0, .ref (a 0)), (1, .int (nI fr))] dX8_sellAt_19 rfl (by decide) rfl ?_
  refine J_iconst (v := 0) hC dX8_sellAt_20 rfl ?_
  refine J_istore hC [(4, .int 0), (3, .int (S 6 fr)), (2, .int (S 4 fr)), (0, .ref (a 0)), (1, .int (nI fr))] dX8_sellAt_21 (by decide) rfl ?_
  refine J_lv (lv' := [(0, .ref (a 0)), (1, .int (nI fr)), (2, .int (S 4 fr)), (3, .int (S 6 fr)), (4, .int 0)]) [3, 4, 2, 1, 0] rfl ?_
  exact (key _) 0 S (S 6 fr) (by omega) (hbc) (hvc) (rfl) (Nat.lt_succ_self _)

set_option maxRecDepth 100000 in
set_option maxHeartbeats 4000000 in
theorem c_X8_takeBackPage (l : Launch) (G : gT) (a : Nat → Nat) (S : CT) (bc : Nat) (vc : Nat) (pg : Nat) (hbc : S 16 12 = nI bc) (bbc : bc ≤ 30) (hvc : S 16 9 = nI vc) (bvc : vc ≤ 6) (hpg : 4 * pg < bc) : MI l yX8_takeBackPage cX8_takeBackPage 6 (some .int) { frames := 3, cells := 0, slots := 0, locals := 68 } [.ref (a 0), .int (nI pg)] G (stW G a S) (fun r (_ : Unit) => r = s_paidForPage S pg bc) (fun _ => stW G a (s_takeBack S pg bc vc)) := by
  refine jm_i (own := RX8) (by decide) rfl (Nat.le_of_ble_eq_true rfl) (fun x hl hC hR hN => ?_)
  subst hl
  have key : ∀ fuel : Nat, (∀ (i : Nat) (T : CT), (i ≤ 30) → (T 16 12 = nI bc) → (T 16 9 = nI vc) → (s_tbLoop S pg bc vc = fo (s_tbBody vc) i (min bc (4 * pg + 4) - i) T) → 30 - i < fuel → J x G (stW G a T) 0 0 [(0, .ref (a 0)), (1, .int (nI pg)), (2, .int (s_paidForPage S pg bc)), (3, .int (nI (4 * pg))), (4, .int (nI (min bc (4 * pg + 4)))), (5, .int (nI i))] [] 31) := by
    intro fuel
    induction fuel with
    | zero => exact fun _ _ _ _ _ _ h => absurd h (Nat.not_lt_zero _)
    | succ fuel ih =>
      intro i T hi hTb hTv hI hmu
      refine J_iload hC dX8_takeBackPage_31 5 rfl ?_
      refine J_iload hC dX8_takeBackPage_33 4 rfl ?_
      refine J_ic_geN (a := i) (b := min bc (4 * pg + 4)) (tgt := 92) hC dX8_takeBackPage_35 (by decide) (by omega) (by omega) (fun (c_35 : (min bc (4 * pg + 4)) ≤ i) => ?_) (fun (c_35 : i < (min bc (4 * pg + 4))) => ?_)
      · refine J_aload_n hC dX8_takeBackPage_92 0 rfl rfl ?_
        refine J_get (v := .ref (a 14)) hC wu_X8 rfl dX8_takeBackPage_93 0 3 (by decide) wf_X8_35 rfl rfl ?_
        refine J_iload_n hC dX8_takeBackPage_96 3 rfl rfl ?_
        refine J_iload hC dX8_takeBackPage_97 4 rfl ?_
        refine J_callVv hC dX8_takeBackPage_99 wl_X8_127 yi_X0_remove (c_X0_remove _ G a T bc (4 * pg) (min bc (4 * pg + 4)) (hTb) (by omega) (by omega) (by omega)) rfl rfl 14 0 rfl rfl ⟨Nat.le_of_ble_eq_true rfl, Nat.le_of_ble_eq_true rfl⟩ (Nat.le_of_ble_eq_true rfl) (Nat.le_of_ble_eq_true rfl) (Nat.le_of_ble_eq_true rfl) (fun _ _ => ?_)
        refine J_aload_n hC dX8_takeBackPage_102 0 rfl rfl ?_
        refine J_iload_n hC dX8_takeBackPage_103 2 rfl rfl ?_
        refine J_callVv hC dX8_takeBackPage_104 wl_X8_130 yi_X8_payBack (c_X8_payBack _ G a (s_remove T (4 * pg) (min bc (4 * pg + 4)) bc) (s_paidForPage S pg bc)) rfl rfl 0 8 rfl rfl ⟨Nat.le_of_ble_eq_true rfl, Nat.le_of_ble_eq_true rfl⟩ (Nat.le_of_ble_eq_true rfl) (Nat.le_of_ble_eq_true rfl) (Nat.le_of_ble_eq_true rfl) (fun _ _ => ?_)
        refine J_iload_n hC dX8_takeBackPage_107 2 rfl rfl ?_
        refine J_iret hC hR dX8_takeBackPage_108 rfl () ?_ ?_ (by decide) (by decide)
        · rfl
        · rw [s_takeBack, hI, fo_done c_35]
      · refine J_aload_n hC dX8_takeBackPage_38 0 rfl rfl ?_
        refine J_get (v := .ref (a 1)) hC wu_X8 rfl dX8_takeBackPage_39 0 0 (by decide) wf_X8_12 rfl rfl ?_
        refine J_aload_n hC dX8_takeBackPage_42 0 rfl rfl ?_
        refine J_get (v := .ref (a 14)) hC wu_X8 rfl dX8_takeBackPage_43 0 3 (by decide) wf_X8_35 rfl rfl ?_
        refine J_get (v := .ref (a 15)) hC wu_X0 rfl dX8_takeBackPage_46 14 0 (by decide) wf_X8_118 rfl rfl ?_
        refine J_iload hC dX8_takeBackPage_49 5 rfl ?_
        refine J_iald (i := i) (v := T 10 i) hC dX8_takeBackPage_51 15 rfl (by omega) (by decide) rfl ?_
        refine J_bipush (v := (-5)) hC dX8_takeBackPage_52 (by decide +kernel) ?_
        refine J_callVv hC dX8_takeBackPage_54 wl_X8_120 yi_X9_changeTrust (c_X9_changeTrust _ G a T vc (T 10 i) (-5) (hTv) (by omega)) rfl rfl 1 9 rfl rfl ⟨Nat.le_of_ble_eq_true rfl, Nat.le_of_ble_eq_true rfl⟩ (Nat.le_of_ble_eq_true rfl) (Nat.le_of_ble_eq_true rfl) (Nat.le_of_ble_eq_true rfl) (fun _ _ => ?_)
        refine J_aload_n hC dX8_takeBackPage_57 0 rfl rfl ?_
        refine J_dup hC dX8_takeBackPage_58 rfl ?_
        refine J_get (v := .int ((s_chg T (T 10 i) (-5) vc) 16 6)) hC wu_X8 rfl dX8_takeBackPage_59 0 11 (by decide) wf_X8_65 rfl rfl ?_
        refine J_aload_n hC dX8_takeBackPage_62 0 rfl rfl ?_
        refine J_get (v := .ref (a 14)) hC wu_X8 rfl dX8_takeBackPage_63 0 3 (by decide) wf_X8_35 rfl rfl ?_
        refine J_get (v := .ref (a 18)) hC wu_X0 rfl dX8_takeBackPage_66 14 3 (by decide) wf_X8_124 rfl rfl ?_
        refine J_iload hC dX8_takeBackPage_69 5 rfl ?_
        refine J_iald (i := i) (v := (s_chg T (T 10 i) (-5) vc) 13 i) hC dX8_takeBackPage_71 18 rfl (by omega) (by decide) rfl ?_
        refine J_iadd (v := ((s_chg T (T 10 i) (-5) vc) 16 6) + ((s_chg T (T 10 i) (-5) vc) 13 i)) hC dX8_takeBackPage_72 rfl ?_
        refine J_put (ws' := stW G a (us (s_chg T (T 10 i) (-5) vc) 16 6 (((s_chg T (T 10 i) (-5) vc) 16 6) + ((s_chg T (T 10 i) (-5) vc) 13 i)))) hC wu_X8 rfl tyX8_ok nmX8 dX8_takeBackPage_73 0 11 (by decide) wf_X8_65 rfl rfl (Nat.le_of_ble_eq_true rfl) rfl rfl rfl ?_
        refine J_aload_n hC dX8_takeBackPage_76 0 rfl rfl ?_
        refine J_dup hC dX8_takeBackPage_77 rfl ?_
        refine J_get (v := .int ((s_chg T (T 10 i) (-5) vc) 16 4)) hC wu_X8 rfl dX8_takeBackPage_78 0 9 (by decide) wf_X8_59 rfl rfl ?_
        refine J_iconst (v := 1) hC dX8_takeBackPage_81 rfl ?_
        refine J_iadd (v := ((s_chg T (T 10 i) (-5) vc) 16 4) + 1) hC dX8_takeBackPage_82 rfl ?_
        refine J_put (ws' := stW G a (us (us (s_chg T (T 10 i) (-5) vc) 16 6 (((s_chg T (T 10 i) (-5) vc) 16 6) + ((s_chg T (T 10 i) (-5) vc) 13 i))) 16 4 (((s_chg T (T 10 i) (-5) vc) 16 4) + 1))) hC wu_X8 rfl tyX8_ok nmX8 dX8_takeBackPage_83 0 9 (by decide) wf_X8_59 rfl rfl (Nat.le_of_ble_eq_true rfl) rfl rfl rfl ?_
        refine J_iinc hC [(5, .int (nI (i + 1))), (0, .ref (a 0)), (1, .int (nI pg)), (2, .int (s_paidForPage S pg bc)), (3, .int (nI (4 * pg))), (4, .int (nI (min bc (4 * pg + 4))))] dX8_takeBackPage_86 5 rfl (nI_inc _) (by decide) rfl ?_
        refine J_goto (tgt := 31) hC dX8_takeBackPage_89 (by decide) ?_
        refine J_lv (lv' := [(0, .ref (a 0)), (1, .int (nI pg)), (2, .int (s_paidForPage S pg bc)), (3, .int (nI (4 * pg))), (4, .int (nI (min bc (4 * pg + 4)))), (5, .int (nI (i + 1)))]) [1, 2, 3, 4, 5, 0] rfl ?_
        exact ih (i + 1) (us (us (s_chg T (T 10 i) (-5) vc) 16 6 (((s_chg T (T 10 i) (-5) vc) 16 6) + ((s_chg T (T 10 i) (-5) vc) 13 i))) 16 4 (((s_chg T (T 10 i) (-5) vc) 16 4) + 1)) (by omega) ((s_chg_16 T (T 10 i) (-5) vc 12).trans (hTb)) ((s_chg_16 T (T 10 i) (-5) vc 9).trans (hTv)) (hI.trans (fo_step c_35)) (by omega)
  refine J_aload_n hC dX8_takeBackPage_0 0 rfl rfl ?_
  refine J_get (v := .ref (a 14)) hC wu_X8 rfl dX8_takeBackPage_1 0 3 (by decide) wf_X8_35 rfl rfl ?_
  refine J_iload_n hC dX8_takeBackPage_4 1 rfl rfl ?_
  refine J_callVi hC dX8_takeBackPage_5 wl_X8_108 yi_X0_paidForPage (c_X0_paidForPage _ G a S bc pg (hbc) (by omega) (by omega)) rfl rfl 14 0 rfl rfl ⟨Nat.le_of_ble_eq_true rfl, Nat.le_of_ble_eq_true rfl⟩ (Nat.le_of_ble_eq_true rfl) (Nat.le_of_ble_eq_true rfl) (Nat.le_of_ble_eq_true rfl) (fun r u h_5 => ?_)
  subst h_5
  refine J_istore_n hC [(2, .int (s_paidForPage S pg bc)), (0, .ref (a 0)), (1, .int (nI pg))] dX8_takeBackPage_8 rfl (by decide) rfl ?_
  refine J_aload_n hC dX8_takeBackPage_9 1 rfl rfl ?_
  refine J_get (v := .ref (a 14)) hC wu_X8 rfl dX8_takeBackPage_10 0 3 (by decide) wf_X8_35 rfl rfl ?_
  refine J_iload_n hC dX8_takeBackPage_13 2 rfl rfl ?_
  refine J_callVi hC dX8_takeBackPage_14 wl_X8_112 yi_X0_startOf (c_X0_startOf _ G a S pg) rfl rfl 14 0 rfl rfl ⟨Nat.le_of_ble_eq_true rfl, Nat.le_of_ble_eq_true rfl⟩ (Nat.le_of_ble_eq_true rfl) (Nat.le_of_ble_eq_true rfl) (Nat.le_of_ble_eq_true rfl) (fun r u h_14 => ?_)
  subst h_14
  refine J_istore_n hC [(3, .int (nI (4 * pg))), (2, .int (s_paidForPage S pg bc)), (0, .ref (a 0)), (1, .int (nI pg))] dX8_takeBackPage_17 rfl (by decide) rfl ?_
  refine J_aload_n hC dX8_takeBackPage_18 2 rfl rfl ?_
  refine J_get (v := .ref (a 14)) hC wu_X8 rfl dX8_takeBackPage_19 0 3 (by decide) wf_X8_35 rfl rfl ?_
  refine J_iload_n hC dX8_takeBackPage_22 3 rfl rfl ?_
  refine J_callVi hC dX8_takeBackPage_23 wl_X8_115 yi_X0_endOf (c_X0_endOf _ G a S bc pg (hbc) (by omega) (by omega)) rfl rfl 14 0 rfl rfl ⟨Nat.le_of_ble_eq_true rfl, Nat.le_of_ble_eq_true rfl⟩ (Nat.le_of_ble_eq_true rfl) (Nat.le_of_ble_eq_true rfl) (Nat.le_of_ble_eq_true rfl) (fun r u h_23 => ?_)
  subst h_23
  refine J_istore hC [(4, .int (nI (min bc (4 * pg + 4)))), (3, .int (nI (4 * pg))), (2, .int (s_paidForPage S pg bc)), (0, .ref (a 0)), (1, .int (nI pg))] dX8_takeBackPage_26 (by decide) rfl ?_
  refine J_iload_n hC dX8_takeBackPage_28 1 rfl rfl ?_
  refine J_istore hC [(5, .int (nI (4 * pg))), (4, .int (nI (min bc (4 * pg + 4)))), (3, .int (nI (4 * pg))), (2, .int (s_paidForPage S pg bc)), (0, .ref (a 0)), (1, .int (nI pg))] dX8_takeBackPage_29 (by decide) rfl ?_
  refine J_lv (lv' := [(0, .ref (a 0)), (1, .int (nI pg)), (2, .int (s_paidForPage S pg bc)), (3, .int (nI (4 * pg))), (4, .int (nI (min bc (4 * pg + 4)))), (5, .int (nI (4 * pg)))]) [4, 5, 3, 2, 1, 0] rfl ?_
  exact (key _) (4 * pg) S (by omega) (hbc) (hvc) (rfl) (Nat.lt_succ_self _)

set_option maxRecDepth 100000 in
set_option maxHeartbeats 4000000 in
theorem c_X8_judge (l : Launch) (G : gT) (a : Nat → Nat) (S : CT) (bc : Nat) (vc : Nat) (mc : Nat) (vg : Nat) (w : Nat) (hbc : S 16 12 = nI bc) (bbc : bc ≤ 30) (hvc : S 16 9 = nI vc) (bvc : vc ≤ 6) (hmc : S 16 13 = nI mc) (bmc : mc ≤ 10) (hv : vg < 6) (hw : w < 3) : MV l yX8_judge cX8_judge 5 { frames := 2, cells := 0, slots := 0, locals := 55 } [.ref (a 0), .int (nI vg), .int (nI w)] G (stW G a S) (fun (_ : Unit) => True) (fun _ => stW G a (s_judge S vg w bc vc mc)) := by
  refine jm_v (own := RX8) (by decide) rfl (Nat.le_of_ble_eq_true rfl) (fun x hl hC hR hN => ?_)
  subst hl
  have key : ∀ fuel : Nat, (∀ (k : Nat) (T : CT), (k < bc) → (s_placeOf S (nI vg) (S 16 0) bc = nI k) → (T 16 12 = nI bc) → (T = s_judgeMid S vg w k vc mc) → 1 < fuel → J x G (stW G a T) 0 0 [(0, .ref (a 0)), (3, .int (nI k))] [] 128) := by
    intro fuel
    induction fuel with
    | zero => exact fun _ _ _ _ _ _ h => absurd h (Nat.not_lt_zero _)
    | succ fuel ih =>
      intro k T hk hp hTb hI hmu
      refine J_aload_n hC dX8_judge_128 0 rfl rfl ?_
      refine J_dup hC dX8_judge_129 rfl ?_
      refine J_get (v := .int (T 16 6)) hC wu_X8 rfl dX8_judge_130 0 11 (by decide) wf_X8_65 rfl rfl ?_
      refine J_aload_n hC dX8_judge_133 0 rfl rfl ?_
      refine J_get (v := .ref (a 14)) hC wu_X8 rfl dX8_judge_134 0 3 (by decide) wf_X8_35 rfl rfl ?_
      refine J_get (v := .ref (a 18)) hC wu_X0 rfl dX8_judge_137 14 3 (by decide) wf_X8_124 rfl rfl ?_
      refine J_iload_n hC dX8_judge_140 1 rfl rfl ?_
      refine J_iald (i := k) (v := T 13 k) hC dX8_judge_141 18 rfl (by omega) (by decide) rfl ?_
      refine J_iadd (v := (T 16 6) + (T 13 k)) hC dX8_judge_142 rfl ?_
      refine J_put (ws' := stW G a (us T 16 6 ((T 16 6) + (T 13 k)))) hC wu_X8 rfl tyX8_ok nmX8 dX8_judge_143 0 11 (by decide) wf_X8_65 rfl rfl (Nat.le_of_ble_eq_true rfl) rfl rfl rfl ?_
      refine J_aload_n hC dX8_judge_146 0 rfl rfl ?_
      refine J_get (v := .ref (a 14)) hC wu_X8 rfl dX8_judge_147 0 3 (by decide) wf_X8_35 rfl rfl ?_
      refine J_iload_n hC dX8_judge_150 1 rfl rfl ?_
      refine J_iload_n hC dX8_judge_151 1 rfl rfl ?_
      refine J_iconst (v := 1) hC dX8_judge_152 rfl ?_
      refine J_iadd (v := nI (k + 1)) hC dX8_judge_153 (nI_add k 1) ?_
      refine J_callVv hC dX8_judge_154 wl_X8_127 yi_X0_remove (c_X0_remove _ G a (us T 16 6 ((T 16 6) + (T 13 k))) bc k (k + 1) (hTb) (by omega) (by omega) (by omega)) rfl rfl 14 0 rfl rfl ⟨Nat.le_of_ble_eq_true rfl, Nat.le_of_ble_eq_true rfl⟩ (Nat.le_of_ble_eq_true rfl) (Nat.le_of_ble_eq_true rfl) (Nat.le_of_ble_eq_true rfl) (fun _ _ => ?_)
      refine J_vret hC hR dX8_judge_157 () ?_ ?_ (by decide) (by decide)
      · trivial
      · rw [s_judge, if_neg (by rw [hp]; exact nI_ne_m1 (by omega)), hp, nI_clamp (by omega), ← hI]; rfl
  refine J_aload_n hC dX8_judge_0 0 rfl rfl ?_
  refine J_get (v := .ref (a 14)) hC wu_X8 rfl dX8_judge_1 0 3 (by decide) wf_X8_35 rfl rfl ?_
  refine J_iload_n hC dX8_judge_4 1 rfl rfl ?_
  refine J_aload_n hC dX8_judge_5 0 rfl rfl ?_
  refine J_get (v := .int (S 16 0)) hC wu_X8 rfl dX8_judge_6 0 5 (by decide) wf_X8_46 rfl rfl ?_
  refine J_callVi hC dX8_judge_9 wl_X8_104 yi_X0_placeOf (c_X0_placeOf _ G a S bc (nI vg) (S 16 0) (hbc) (by omega)) rfl rfl 14 0 rfl rfl ⟨Nat.le_of_ble_eq_true rfl, Nat.le_of_ble_eq_true rfl⟩ (Nat.le_of_ble_eq_true rfl) (Nat.le_of_ble_eq_true rfl) (Nat.le_of_ble_eq_true rfl) (fun r u h_9 => ?_)
  subst h_9
  rcases placeOf_cases S (nI vg) (S 16 0) bc with p_9 | ⟨k_9, hk_9, p_9, -, -⟩
  · refine J_topi p_9 ?_
    refine J_istore_n hC [(3, .int (-1)), (0, .ref (a 0)), (1, .int (nI vg)), (2, .int (nI w))] dX8_judge_12 rfl (by decide) rfl ?_
    refine J_iload_n hC dX8_judge_13 0 rfl rfl ?_
    refine J_iconst (v := (-1)) hC dX8_judge_14 rfl ?_
    refine J_ic_ne (tgt := 19) hC dX8_judge_15 (by decide) (fun c => absurd (by decide) c) (fun _ => ?_)
    refine J_vret hC hR dX8_judge_18 () ?_ ?_ (by decide) (by decide)
    · trivial
    · rw [s_judge, if_pos p_9]
  · refine J_topi p_9 ?_
    refine J_istore_n hC [(3, .int (nI k_9)), (0, .ref (a 0)), (1, .int (nI vg)), (2, .int (nI w))] dX8_judge_12 rfl (by decide) rfl ?_
    refine J_iload_n hC dX8_judge_13 0 rfl rfl ?_
    refine J_iconst (v := (-1)) hC dX8_judge_14 rfl ?_
    refine J_ic_ne (tgt := 19) hC dX8_judge_15 (by decide) (fun _ => ?_) (fun c => absurd c (nI_ne_m1 (by omega)))
    refine J_aload_n hC dX8_judge_19 1 rfl rfl ?_
    refine J_get (v := .ref (a 14)) hC wu_X8 rfl dX8_judge_20 0 3 (by decide) wf_X8_35 rfl rfl ?_
    refine J_get (v := .ref (a 19)) hC wu_X0 rfl dX8_judge_23 14 4 (by decide) wf_X8_169 rfl rfl ?_
    refine J_iload_n hC dX8_judge_26 0 rfl rfl ?_
    refine J_iald (i := k_9) (v := S 14 k_9) hC dX8_judge_27 19 rfl (by omega) (by decide) rfl ?_
    refine J_istore hC [(4, .int (S 14 k_9)), (3, .int (nI k_9)), (0, .ref (a 0)), (1, .int (nI vg)), (2, .int (nI w))] dX8_judge_28 (by decide) rfl ?_
    refine J_aload_n hC dX8_judge_30 2 rfl rfl ?_
    refine J_get (v := .ref (a 14)) hC wu_X8 rfl dX8_judge_31 0 3 (by decide) wf_X8_35 rfl rfl ?_
    refine J_get (v := .ref (a 17)) hC wu_X0 rfl dX8_judge_34 14 2 (by decide) wf_X8_172 rfl rfl ?_
    refine J_iload_n hC dX8_judge_37 1 rfl rfl ?_
    refine J_iald (i := k_9) (v := S 12 k_9) hC dX8_judge_38 17 rfl (by omega) (by decide) rfl ?_
    refine J_iload_n hC dX8_judge_39 4 rfl rfl ?_
    refine J_ic_ne (tgt := 65) hC dX8_judge_40 (by decide) (fun (c_40 : ¬ (S 12 k_9) = (nI w)) => ?_) (fun (c_40 : (S 12 k_9) = (nI w)) => ?_)
    · refine J_aload_n hC dX8_judge_65 2 rfl rfl ?_
      refine J_dup hC dX8_judge_66 rfl ?_
      refine J_get (v := .int (S 16 3)) hC wu_X8 rfl dX8_judge_67 0 8 (by decide) wf_X8_56 rfl rfl ?_
      refine J_iconst (v := 1) hC dX8_judge_70 rfl ?_
      refine J_iadd (v := (S 16 3) + 1) hC dX8_judge_71 rfl ?_
      refine J_put (ws' := stW G a (us S 16 3 ((S 16 3) + 1))) hC wu_X8 rfl tyX8_ok nmX8 dX8_judge_72 0 8 (by decide) wf_X8_56 rfl rfl (Nat.le_of_ble_eq_true rfl) rfl rfl rfl ?_
      refine J_aload_n hC dX8_judge_75 2 rfl rfl ?_
      refine J_get (v := .ref (a 20)) hC wu_X8 rfl dX8_judge_76 0 4 (by decide) wf_X8_42 rfl rfl ?_
      refine J_iload_n hC dX8_judge_79 3 rfl rfl ?_
      refine J_aload_n hC dX8_judge_80 2 rfl rfl ?_
      refine J_get (v := .int (S 16 0)) hC wu_X8 rfl dX8_judge_81 0 5 (by decide) wf_X8_46 rfl rfl ?_
      refine J_callVv hC dX8_judge_84 wl_X8_175 yi_X4_add (c_X4_add _ G a (us S 16 3 ((S 16 3) + 1)) mc (nI vg) (S 16 0) (hmc) (by omega)) rfl rfl 20 4 rfl rfl ⟨Nat.le_of_ble_eq_true rfl, Nat.le_of_ble_eq_true rfl⟩ (Nat.le_of_ble_eq_true rfl) (Nat.le_of_ble_eq_true rfl) (Nat.le_of_ble_eq_true rfl) (fun _ _ => ?_)
      refine J_aload_n hC dX8_judge_87 2 rfl rfl ?_
      refine J_iload_n hC dX8_judge_88 4 rfl rfl ?_
      refine J_iconst (v := 2) hC dX8_judge_89 rfl ?_
      refine J_ic_neN (a := w) (b := 2) (tgt := 101) hC dX8_judge_90 (by decide) (by omega) (by omega) (fun (c_90 : ¬ w = 2) => ?_) (fun (c_90 : w = 2) => ?_)
      · refine J_iload hC dX8_judge_101 0 rfl ?_
        refine J_iconst (v := 2) hC dX8_judge_103 rfl ?_
        refine J_idiv (v := (S 14 k_9) / 2) hC dX8_judge_104 (by decide) rfl ?_
        refine J_callVv hC dX8_judge_105 wl_X8_130 yi_X8_payBack (c_X8_payBack _ G a (s_memAdd (us S 16 3 ((S 16 3) + 1)) (nI vg) (S 16 0) mc) ((S 14 k_9) / 2)) rfl rfl 0 8 rfl rfl ⟨Nat.le_of_ble_eq_true rfl, Nat.le_of_ble_eq_true rfl⟩ (Nat.le_of_ble_eq_true rfl) (Nat.le_of_ble_eq_true rfl) (Nat.le_of_ble_eq_true rfl) (fun _ _ => ?_)
        refine J_aload_n hC dX8_judge_108 2 rfl rfl ?_
        refine J_get (v := .ref (a 1)) hC wu_X8 rfl dX8_judge_109 0 0 (by decide) wf_X8_12 rfl rfl ?_
        refine J_iload_n hC dX8_judge_112 3 rfl rfl ?_
        refine J_iload_n hC dX8_judge_113 4 rfl rfl ?_
        refine J_iconst (v := 2) hC dX8_judge_114 rfl ?_
        refine J_ic_neN (a := w) (b := 2) (tgt := 123) hC dX8_judge_115 (by decide) (by omega) (by omega) (fun (c_115 : ¬ w = 2) => ?_) (fun (c_115 : w = 2) => ?_)
        · refine J_bipush (v := (-10)) hC dX8_judge_123 (by decide +kernel) ?_
          refine J_callVv hC dX8_judge_125 wl_X8_120 yi_X9_changeTrust (c_X9_changeTrust _ G a (s_payBack (s_memAdd (us S 16 3 ((S 16 3) + 1)) (nI vg) (S 16 0) mc) ((S 14 k_9) / 2)) vc (nI vg) (-10) ((rfl).trans ((s_memAdd_16 (us S 16 3 ((S 16 3) + 1)) (nI vg) (S 16 0) mc 9 (by decide)).trans (hvc))) (by omega)) rfl rfl 1 9 rfl rfl ⟨Nat.le_of_ble_eq_true rfl, Nat.le_of_ble_eq_true rfl⟩ (Nat.le_of_ble_eq_true rfl) (Nat.le_of_ble_eq_true rfl) (Nat.le_of_ble_eq_true rfl) (fun _ _ => ?_)
          refine J_lv (lv' := [(0, .ref (a 0)), (3, .int (nI k_9))]) [2, 1] rfl ?_
          exact (key _) k_9 (s_chg (s_payBack (s_memAdd (us S 16 3 ((S 16 3) + 1)) (nI vg) (S 16 0) mc) ((S 14 k_9) / 2)) (nI vg) (-10) vc) (hk_9) (p_9) ((s_chg_16 (s_payBack (s_memAdd (us S 16 3 ((S 16 3) + 1)) (nI vg) (S 16 0) mc) ((S 14 k_9) / 2)) (nI vg) (-10) vc 12).trans ((rfl).trans ((s_memAdd_16 (us S 16 3 ((S 16 3) + 1)) (nI vg) (S 16 0) mc 12 (by decide)).trans (hbc)))) (by rw [s_judgeMid, if_neg c_40, if_neg c_90, if_neg c_90] <;> rfl) (Nat.lt_succ_self _)
        · exfalso; omega
      · refine J_iload hC dX8_judge_93 0 rfl ?_
        refine J_bipush (v := 10) hC dX8_judge_95 (by decide +kernel) ?_
        refine J_iadd (v := (S 14 k_9) + 10) hC dX8_judge_97 rfl ?_
        refine J_goto (tgt := 105) hC dX8_judge_98 (by decide) ?_
        refine J_callVv hC dX8_judge_105 wl_X8_130 yi_X8_payBack (c_X8_payBack _ G a (s_memAdd (us S 16 3 ((S 16 3) + 1)) (nI vg) (S 16 0) mc) ((S 14 k_9) + 10)) rfl rfl 0 8 rfl rfl ⟨Nat.le_of_ble_eq_true rfl, Nat.le_of_ble_eq_true rfl⟩ (Nat.le_of_ble_eq_true rfl) (Nat.le_of_ble_eq_true rfl) (Nat.le_of_ble_eq_true rfl) (fun _ _ => ?_)
        refine J_aload_n hC dX8_judge_108 2 rfl rfl ?_
        refine J_get (v := .ref (a 1)) hC wu_X8 rfl dX8_judge_109 0 0 (by decide) wf_X8_12 rfl rfl ?_
        refine J_iload_n hC dX8_judge_112 3 rfl rfl ?_
        refine J_iload_n hC dX8_judge_113 4 rfl rfl ?_
        refine J_iconst (v := 2) hC dX8_judge_114 rfl ?_
        refine J_ic_neN (a := w) (b := 2) (tgt := 123) hC dX8_judge_115 (by decide) (by omega) (by omega) (fun (c_115 : ¬ w = 2) => ?_) (fun (c_115 : w = 2) => ?_)
        · exfalso; omega
        · refine J_bipush (v := (-20)) hC dX8_judge_118 (by decide +kernel) ?_
          refine J_goto (tgt := 125) hC dX8_judge_120 (by decide) ?_
          refine J_callVv hC dX8_judge_125 wl_X8_120 yi_X9_changeTrust (c_X9_changeTrust _ G a (s_payBack (s_memAdd (us S 16 3 ((S 16 3) + 1)) (nI vg) (S 16 0) mc) ((S 14 k_9) + 10)) vc (nI vg) (-20) ((rfl).trans ((s_memAdd_16 (us S 16 3 ((S 16 3) + 1)) (nI vg) (S 16 0) mc 9 (by decide)).trans (hvc))) (by omega)) rfl rfl 1 9 rfl rfl ⟨Nat.le_of_ble_eq_true rfl, Nat.le_of_ble_eq_true rfl⟩ (Nat.le_of_ble_eq_true rfl) (Nat.le_of_ble_eq_true rfl) (Nat.le_of_ble_eq_true rfl) (fun _ _ => ?_)
          refine J_lv (lv' := [(0, .ref (a 0)), (3, .int (nI k_9))]) [2, 1] rfl ?_
          exact (key _) k_9 (s_chg (s_payBack (s_memAdd (us S 16 3 ((S 16 3) + 1)) (nI vg) (S 16 0) mc) ((S 14 k_9) + 10)) (nI vg) (-20) vc) (hk_9) (p_9) ((s_chg_16 (s_payBack (s_memAdd (us S 16 3 ((S 16 3) + 1)) (nI vg) (S 16 0) mc) ((S 14 k_9) + 10)) (nI vg) (-20) vc 12).trans ((rfl).trans ((s_memAdd_16 (us S 16 3 ((S 16 3) + 1)) (nI vg) (S 16 0) mc 12 (by decide)).trans (hbc)))) (by rw [s_judgeMid, if_neg c_40, if_pos c_90, if_pos c_90] <;> rfl) (Nat.lt_succ_self _)
    · refine J_aload_n hC dX8_judge_43 2 rfl rfl ?_
      refine J_dup hC dX8_judge_44 rfl ?_
      refine J_get (v := .int (S 16 2)) hC wu_X8 rfl dX8_judge_45 0 7 (by decide) wf_X8_53 rfl rfl ?_
      refine J_iconst (v := 1) hC dX8_judge_48 rfl ?_
      refine J_iadd (v := (S 16 2) + 1) hC dX8_judge_49 rfl ?_
      refine J_put (ws' := stW G a (us S 16 2 ((S 16 2) + 1))) hC wu_X8 rfl tyX8_ok nmX8 dX8_judge_50 0 7 (by decide) wf_X8_53 rfl rfl (Nat.le_of_ble_eq_true rfl) rfl rfl rfl ?_
      refine J_aload_n hC dX8_judge_53 2 rfl rfl ?_
      refine J_get (v := .ref (a 1)) hC wu_X8 rfl dX8_judge_54 0 0 (by decide) wf_X8_12 rfl rfl ?_
      refine J_iload_n hC dX8_judge_57 3 rfl rfl ?_
      refine J_iconst (v := 5) hC dX8_judge_58 rfl ?_
      refine J_callVv hC dX8_judge_59 wl_X8_120 yi_X9_changeTrust (c_X9_changeTrust _ G a (us S 16 2 ((S 16 2) + 1)) vc (nI vg) 5 (hvc) (by omega)) rfl rfl 1 9 rfl rfl ⟨Nat.le_of_ble_eq_true rfl, Nat.le_of_ble_eq_true rfl⟩ (Nat.le_of_ble_eq_true rfl) (Nat.le_of_ble_eq_true rfl) (Nat.le_of_ble_eq_true rfl) (fun _ _ => ?_)
      refine J_goto (tgt := 128) hC dX8_judge_62 (by decide) ?_
      refine J_lv (lv' := [(0, .ref (a 0)), (3, .int (nI k_9))]) [2, 1] rfl ?_
      exact (key _) k_9 (s_chg (us S 16 2 ((S 16 2) + 1)) (nI vg) 5 vc) (hk_9) (p_9) ((s_chg_16 (us S 16 2 ((S 16 2) + 1)) (nI vg) 5 vc 12).trans (hbc)) (by rw [s_judgeMid, if_pos c_40]) (Nat.lt_succ_self _)

set_option maxRecDepth 100000 in
set_option maxHeartbeats 4000000 in
theorem c_X8_letDaysPass (l : Launch) (G : gT) (a : Nat → Nat) (S : CT) (bc : Nat) (vc : Nat) (fc : Nat) (mc : Nat) (dn : Nat) (hbc : S 16 12 = nI bc) (bbc : bc ≤ 30) (hvc : S 16 9 = nI vc) (bvc : vc ≤ 6) (hfc : S 16 10 = nI fc) (bfc : fc ≤ 6) (hmc : S 16 13 = nI mc) (bmc : mc ≤ 10) (hd : dn ≤ 1000) : MV l yX8_letDaysPass cX8_letDaysPass 4 { frames := 3, cells := 0, slots := 0, locals := 79 } [.ref (a 0), .int (nI dn)] G (stW G a S) (fun (_ : Unit) => True) (fun _ => stW G a (s_days dn S)) := by
  refine jm_v (own := RX8) (by decide) rfl (Nat.le_of_ble_eq_true rfl) (fun x hl hC hR hN => ?_)
  subst hl
  have key : ∀ fuel : Nat, (∀ (i : Nat) (T : CT) (b : Nat) (mm : Nat), (i ≤ dn) → (T 16 12 = nI b) → (b ≤ 30) → (T 16 9 = nI vc) → (T 16 10 = nI fc) → (T 16 13 = nI mm) → (mm ≤ 10) → (s_days dn S = fo s_dayB i (dn - i) T) → (dn - i) * 100 < fuel → J x G (stW G a T) 0 0 [(0, .ref (a 0)), (1, .int (nI dn)), (2, .int (nI i))] [] 2) ∧ (∀ (i : Nat) (f : Nat) (D : CT) (T : CT) (b : Nat) (mm : Nat), (i < dn) → (f ≤ fc) → (T 16 12 = nI b) → (b ≤ 30) → (T 16 9 = nI vc) → (T 16 10 = nI fc) → (T 16 13 = nI mm) → (mm ≤ 10) → (s_days dn S = fo s_dayB i (dn - i) D) → (s_dayF (us D 16 0 (D 16 0 + 1)) = fo s_fairB f (fc - f) T) → (dn - (i + 1)) * 100 + 50 + (6 - f) < fuel → J x G (stW G a T) 0 0 [(0, .ref (a 0)), (1, .int (nI dn)), (2, .int (nI i)), (3, .int (nI f))] [] 19) ∧ (∀ (i : Nat) (f : Nat) (D : CT) (T : CT) (b : Nat) (mm : Nat), (i < dn) → (f ≤ vc) → (T 16 12 = nI b) → (b ≤ 30) → (T 16 9 = nI vc) → (T 16 10 = nI fc) → (T 16 13 = nI mm) → (mm ≤ 10) → (s_days dn S = fo s_dayB i (dn - i) D) → (s_dayV (s_dayF (us D 16 0 (D 16 0 + 1))) = fo s_vilB f (vc - f) T) → (dn - (i + 1)) * 100 + 20 + (6 - f) < fuel → J x G (stW G a T) 0 0 [(0, .ref (a 0)), (1, .int (nI dn)), (2, .int (nI i)), (3, .int (nI f))] [] 58) := by
    intro fuel
    induction fuel with
    | zero => exact ⟨fun _ _ _ _ _ _ _ _ _ _ _ _ h => absurd h (Nat.not_lt_zero _), fun _ _ _ _ _ _ _ _ _ _ _ _ _ _ _ _ h => absurd h (Nat.not_lt_zero _), fun _ _ _ _ _ _ _ _ _ _ _ _ _ _ _ _ h => absurd h (Nat.not_lt_zero _)⟩
    | succ fuel ih =>
      refine ⟨?_, ?_, ?_⟩
      · intro i T b mm hi hTb hbb hTv hTf hTm hmm hI hmu
        refine J_iload_n hC dX8_letDaysPass_2 2 rfl rfl ?_
        refine J_iload_n hC dX8_letDaysPass_3 1 rfl rfl ?_
        refine J_ic_geN (a := i) (b := dn) (tgt := 110) hC dX8_letDaysPass_4 (by decide) (by omega) (by omega) (fun (c_4 : dn ≤ i) => ?_) (fun (c_4 : i < dn) => ?_)
        · refine J_vret hC hR dX8_letDaysPass_110 () ?_ ?_ (by decide) (by decide)
          · trivial
          · rw [hI, fo_done c_4]
        · refine J_aload_n hC dX8_letDaysPass_7 0 rfl rfl ?_
          refine J_dup hC dX8_letDaysPass_8 rfl ?_
          refine J_get (v := .int (T 16 0)) hC wu_X8 rfl dX8_letDaysPass_9 0 5 (by decide) wf_X8_46 rfl rfl ?_
          refine J_iconst (v := 1) hC dX8_letDaysPass_12 rfl ?_
          refine J_iadd (v := (T 16 0) + 1) hC dX8_letDaysPass_13 rfl ?_
          refine J_put (ws' := stW G a (us T 16 0 ((T 16 0) + 1))) hC wu_X8 rfl tyX8_ok nmX8 dX8_letDaysPass_14 0 5 (by decide) wf_X8_46 rfl rfl (Nat.le_of_ble_eq_true rfl) rfl rfl rfl ?_
          refine J_iconst (v := 0) hC dX8_letDaysPass_17 rfl ?_
          refine J_istore_n hC [(3, .int 0), (0, .ref (a 0)), (1, .int (nI dn)), (2, .int (nI i))] dX8_letDaysPass_18 rfl (by decide) rfl ?_
          refine J_lv (lv' := [(0, .ref (a 0)), (1, .int (nI dn)), (2, .int (nI i)), (3, .int 0)]) [1, 2, 3, 0] rfl ?_
          exact ih.2.1 i 0 T (us T 16 0 ((T 16 0) + 1)) b mm (c_4) (by omega) (hTb) (by omega) (hTv) (hTf) (hTm) (by omega) (hI) (by rw [s_dayF, fcO_eq (T := us T 16 0 (T 16 0 + 1)) (b := fc) hTf bfc]; rfl) (by omega)
      · intro i f D T b mm hii hf hTb hbb hTv hTf hTm hmm hI hF hmu
        refine J_iload_n hC dX8_letDaysPass_19 3 rfl rfl ?_
        refine J_aload_n hC dX8_letDaysPass_20 0 rfl rfl ?_
        refine J_get (v := .ref (a 5)) hC wu_X8 rfl dX8_letDaysPass_21 0 1 (by decide) wf_X8_21 rfl rfl ?_
        refine J_get (v := .int (T 16 10)) hC wu_X2 rfl dX8_letDaysPass_24 5 5 (by decide) wf_X8_77 rfl rfl ?_
        refine J_topi hTf ?_
        refine J_ic_geN (a := f) (b := fc) (tgt := 56) hC dX8_letDaysPass_27 (by decide) (by omega) (by omega) (fun (c_27 : fc ≤ f) => ?_) (fun (c_27 : f < fc) => ?_)
        · refine J_iconst (v := 0) hC dX8_letDaysPass_56 rfl ?_
          refine J_istore_n hC [(3, .int 0), (0, .ref (a 0)), (1, .int (nI dn)), (2, .int (nI i))] dX8_letDaysPass_57 rfl (by decide) rfl ?_
          refine J_lv (lv' := [(0, .ref (a 0)), (1, .int (nI dn)), (2, .int (nI i)), (3, .int 0)]) [1, 2, 3, 0] rfl ?_
          exact ih.2.2 i 0 D T b mm (hii) (by omega) (hTb) (by omega) (hTv) (hTf) (hTm) (by omega) (hI) (by rw [hF, fo_done c_27, s_dayV, vcO_eq hTv bvc]; rfl) (by omega)
        · refine J_aload_n hC dX8_letDaysPass_30 0 rfl rfl ?_
          refine J_get (v := .ref (a 5)) hC wu_X8 rfl dX8_letDaysPass_31 0 1 (by decide) wf_X8_21 rfl rfl ?_
          refine J_iload_n hC dX8_letDaysPass_34 3 rfl rfl ?_
          refine J_aload_n hC dX8_letDaysPass_35 0 rfl rfl ?_
          refine J_get (v := .int (T 16 0)) hC wu_X8 rfl dX8_letDaysPass_36 0 5 (by decide) wf_X8_46 rfl rfl ?_
          refine J_callVi hC dX8_letDaysPass_39 wl_X8_134 yi_X2_isHeld (c_X2_isHeld _ G a T f (T 16 0) (by omega)) rfl rfl 5 2 rfl rfl ⟨Nat.le_of_ble_eq_true rfl, Nat.le_of_ble_eq_true rfl⟩ (Nat.le_of_ble_eq_true rfl) (Nat.le_of_ble_eq_true rfl) (Nat.le_of_ble_eq_true rfl) (fun r u h_39 => ?_)
          rcases h_39 with ⟨rfl, c_39⟩ | ⟨rfl, c_39⟩
          · refine J_if_eq (tgt := 50) hC dX8_letDaysPass_42 (by decide) (fun c => absurd c (by decide)) (fun _ => ?_)
            refine J_aload_n hC dX8_letDaysPass_45 0 rfl rfl ?_
            refine J_iload_n hC dX8_letDaysPass_46 3 rfl rfl ?_
            refine J_callVv hC dX8_letDaysPass_47 wl_X8_138 yi_X8_sellAt (c_X8_sellAt _ G a T b vc f (hTb) (by omega) (hTv) (by omega) (by omega)) rfl rfl 0 8 rfl rfl ⟨Nat.le_of_ble_eq_true rfl, Nat.le_of_ble_eq_true rfl⟩ (Nat.le_of_ble_eq_true rfl) (Nat.le_of_ble_eq_true rfl) (Nat.le_of_ble_eq_true rfl) (fun _ _ => ?_)
            refine J_iinc hC [(3, .int (nI (f + 1))), (0, .ref (a 0)), (1, .int (nI dn)), (2, .int (nI i))] dX8_letDaysPass_50 3 rfl (nI_inc _) (by decide) rfl ?_
            refine J_goto (tgt := 19) hC dX8_letDaysPass_53 (by decide) ?_
            refine J_lv (lv' := [(0, .ref (a 0)), (1, .int (nI dn)), (2, .int (nI i)), (3, .int (nI (f + 1)))]) [1, 2, 3, 0] rfl ?_
            exact ih.2.1 i (f + 1) D (s_sellAt T f b vc) b mm (hii) (by omega) ((s_sellAt_16 T f b vc 12 (by decide) (by decide) (by decide)).trans (hTb)) (by omega) ((s_sellAt_16 T f b vc 9 (by decide) (by decide) (by decide)).trans (hTv)) ((s_sellAt_16 T f b vc 10 (by decide) (by decide) (by decide)).trans (hTf)) ((s_sellAt_16 T f b vc 13 (by decide) (by decide) (by decide)).trans (hTm)) (by omega) (hI) (hF.trans ((fo_step c_27).trans (congrArg _ (by rw [s_fairB, if_pos c_39, bcO_eq hTb hbb, vcO_eq hTv bvc])))) (by omega)
          · refine J_if_eq (tgt := 50) hC dX8_letDaysPass_42 (by decide) (fun _ => ?_) (fun c => absurd (by decide) c)
            refine J_iinc hC [(3, .int (nI (f + 1))), (0, .ref (a 0)), (1, .int (nI dn)), (2, .int (nI i))] dX8_letDaysPass_50 3 rfl (nI_inc _) (by decide) rfl ?_
            refine J_goto (tgt := 19) hC dX8_letDaysPass_53 (by decide) ?_
            refine J_lv (lv' := [(0, .ref (a 0)), (1, .int (nI dn)), (2, .int (nI i)), (3, .int (nI (f + 1)))]) [1, 2, 3, 0] rfl ?_
            exact ih.2.1 i (f + 1) D T b mm (hii) (by omega) (hTb) (by omega) (hTv) (hTf) (hTm) (by omega) (hI) (hF.trans ((fo_step c_27).trans (congrArg _ (by rw [s_fairB, if_neg c_39])))) (by omega)
      · intro i f D T b mm hii hf hTb hbb hTv hTf hTm hmm hI hV hmu
        refine J_iload_n hC dX8_letDaysPass_58 3 rfl rfl ?_
        refine J_aload_n hC dX8_letDaysPass_59 0 rfl rfl ?_
        refine J_get (v := .ref (a 1)) hC wu_X8 rfl dX8_letDaysPass_60 0 0 (by decide) wf_X8_12 rfl rfl ?_
        refine J_get (v := .int (T 16 9)) hC wu_X9 rfl dX8_letDaysPass_63 1 3 (by decide) wf_X8_74 rfl rfl ?_
        refine J_topi hTv ?_
        refine J_ic_geN (a := f) (b := vc) (tgt := 87) hC dX8_letDaysPass_66 (by decide) (by omega) (by omega) (fun (c_66 : vc ≤ f) => ?_) (fun (c_66 : f < vc) => ?_)
        · refine J_aload_n hC dX8_letDaysPass_87 0 rfl rfl ?_
          refine J_get (v := .int (T 16 0)) hC wu_X8 rfl dX8_letDaysPass_88 0 5 (by decide) wf_X8_46 rfl rfl ?_
          refine J_bipush (v := 12) hC dX8_letDaysPass_91 (by decide +kernel) ?_
          refine J_irem (v := imod (T 16 0) 12) hC dX8_letDaysPass_93 (by decide) rfl ?_
          refine J_if_ne (tgt := 104) hC dX8_letDaysPass_94 (by decide) (fun (c_94 : ¬ (imod (T 16 0) 12) = 0) => ?_) (fun (c_94 : (imod (T 16 0) 12) = 0) => ?_)
          · refine J_iinc hC [(2, .int (nI (i + 1))), (0, .ref (a 0)), (1, .int (nI dn)), (3, .int (nI f))] dX8_letDaysPass_104 2 rfl (nI_inc _) (by decide) rfl ?_
            refine J_goto (tgt := 2) hC dX8_letDaysPass_107 (by decide) ?_
            refine J_lv (lv' := [(0, .ref (a 0)), (1, .int (nI dn)), (2, .int (nI (i + 1)))]) [1, 2, 0] rfl ?_
            exact ih.1 (i + 1) T b mm (by omega) (hTb) (by omega) (hTv) (hTf) (hTm) (by omega) (hI.trans ((fo_step hii).trans (congrArg _ (show s_dayB i D = _ from by rw [s_dayB, s_day, hV, fo_done c_66, s_dayY, if_neg c_94])))) (by omega)
          · refine J_aload_n hC dX8_letDaysPass_97 0 rfl rfl ?_
            refine J_get (v := .ref (a 11)) hC wu_X8 rfl dX8_letDaysPass_98 0 2 (by decide) wf_X8_28 rfl rfl ?_
            refine J_callVv hC dX8_letDaysPass_101 wl_X8_148 yi_X7_closeYear (c_X7_closeYear _ G a T) rfl rfl 11 7 rfl rfl ⟨Nat.le_of_ble_eq_true rfl, Nat.le_of_ble_eq_true rfl⟩ (Nat.le_of_ble_eq_true rfl) (Nat.le_of_ble_eq_true rfl) (Nat.le_of_ble_eq_true rfl) (fun _ _ => ?_)
            refine J_iinc hC [(2, .int (nI (i + 1))), (0, .ref (a 0)), (1, .int (nI dn)), (3, .int (nI f))] dX8_letDaysPass_104 2 rfl (nI_inc _) (by decide) rfl ?_
            refine J_goto (tgt := 2) hC dX8_letDaysPass_107 (by decide) ?_
            refine J_lv (lv' := [(0, .ref (a 0)), (1, .int (nI dn)), (2, .int (nI (i + 1)))]) [1, 2, 0] rfl ?_
            exact ih.1 (i + 1) (s_closeYear T) b mm (by omega) ((s_closeYear_16 T 12).trans (hTb)) (by omega) ((s_closeYear_16 T 9).trans (hTv)) ((s_closeYear_16 T 10).trans (hTf)) ((s_closeYear_16 T 13).trans (hTm)) (by omega) (hI.trans ((fo_step hii).trans (congrArg _ (show s_dayB i D = _ from by rw [s_dayB, s_day, hV, fo_done c_66, s_dayY, if_pos c_94])))) (by omega)
        · refine J_aload_n hC dX8_letDaysPass_69 0 rfl rfl ?_
          refine J_iload_n hC dX8_letDaysPass_70 3 rfl rfl ?_
          refine J_aload_n hC dX8_letDaysPass_71 0 rfl rfl ?_
          refine J_get (v := .ref (a 11)) hC wu_X8 rfl dX8_letDaysPass_72 0 2 (by decide) wf_X8_28 rfl rfl ?_
          refine J_callVi hC dX8_letDaysPass_75 wl_X8_141 yi_X7_draw (c_X7_draw _ G a T) rfl rfl 11 7 rfl rfl ⟨Nat.le_of_ble_eq_true rfl, Nat.le_of_ble_eq_true rfl⟩ (Nat.le_of_ble_eq_true rfl) (Nat.le_of_ble_eq_true rfl) (Nat.le_of_ble_eq_true rfl) (fun r u h_75 => ?_)
          subst h_75
          have hdw := s_drawW_lt T
          refine J_callVv hC dX8_letDaysPass_78 wl_X8_145 yi_X8_judge (c_X8_judge _ G a (s_draw T) b vc mm f (s_drawW T) ((rfl).trans (hTb)) (by omega) ((rfl).trans (hTv)) (by omega) ((rfl).trans (hTm)) (by omega) (by omega) (by omega)) rfl rfl 0 8 rfl rfl ⟨Nat.le_of_ble_eq_true rfl, Nat.le_of_ble_eq_true rfl⟩ (Nat.le_of_ble_eq_true rfl) (Nat.le_of_ble_eq_true rfl) (Nat.le_of_ble_eq_true rfl) (fun _ _ => ?_)
          obtain ⟨b2, hb2, eb2⟩ := s_judge_12 (s_draw T) f (s_drawW T) b vc mm (by omega) ((rfl).trans (hTb))
          obtain ⟨m2, hm2, em2⟩ := s_judge_13 (s_draw T) f (s_drawW T) b vc mm (by omega) ((rfl).trans (hTm))
          refine J_iinc hC [(3, .int (nI (f + 1))), (0, .ref (a 0)), (1, .int (nI dn)), (2, .int (nI i))] dX8_letDaysPass_81 3 rfl (nI_inc _) (by decide) rfl ?_
          refine J_goto (tgt := 58) hC dX8_letDaysPass_84 (by decide) ?_
          refine J_lv (lv' := [(0, .ref (a 0)), (1, .int (nI dn)), (2, .int (nI i)), (3, .int (nI (f + 1)))]) [1, 2, 3, 0] rfl ?_
          exact ih.2.2 i (f + 1) D (s_judge (s_draw T) f (s_drawW T) b vc mm) b2 m2 (hii) (by omega) (eb2) (by omega) ((s_judge_16 (s_draw T) f (s_drawW T) b vc mm 9 (by omega)).trans ((rfl).trans (hTv))) ((s_judge_16 (s_draw T) f (s_drawW T) b vc mm 10 (by omega)).trans ((rfl).trans (hTf))) (em2) (by omega) (hI) (hV.trans ((fo_step c_66).trans (congrArg _ (by rw [s_vilB, bcO_eq hTb hbb, vcO_eq hTv bvc, mcO_eq hTm hmm])))) (by omega)
  refine J_iconst (v := 0) hC dX8_letDaysPass_0 rfl ?_
  refine J_istore_n hC [(2, .int 0), (0, .ref (a 0)), (1, .int (nI dn))] dX8_letDaysPass_1 rfl (by decide) rfl ?_
  refine J_lv (lv' := [(0, .ref (a 0)), (1, .int (nI dn)), (2, .int 0)]) [1, 2, 0] rfl ?_
  exact ((key _).1) 0 S bc mc (by omega) (hbc) (by omega) (hvc) (hfc) (hmc) (by omega) (rfl) (Nat.lt_succ_self _)


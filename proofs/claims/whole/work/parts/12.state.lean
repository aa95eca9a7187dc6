set_option maxRecDepth 100000 in
set_option maxHeartbeats 4000000 in
theorem c_X8_payBack (l : Launch) (G : gT) (a : Nat → Nat) (S : CT) (r : Int32) : MV l yX8_payBack cX8_payBack 2 { frames := 0, cells := 0, slots := 0, locals := 0 } [.ref (a 0), .int r] G (stW G a S) (fun (_ : Unit) => True) (fun _ => stW G a (s_payBack S r)) := by
  refine jm_v (own := RX8) (by decide) rfl (Nat.le_of_ble_eq_true rfl) (fun x hl hC hR hN => ?_)
  subst hl
  refine J_aload_n hC dX8_payBack_0 0 rfl rfl ?_
  refine J_dup hC dX8_payBack_1 rfl ?_
  refine J_get (v := .int (S 16 1)) hC wu_X8 rfl dX8_payBack_2 0 6 (by decide) wf_X8_50 rfl rfl ?_
  refine J_iload_n hC dX8_payBack_5 1 rfl rfl ?_
  refine J_isub (v := (S 16 1) - r) hC dX8_payBack_6 rfl ?_
  refine J_put (ws' := stW G a (us S 16 1 ((S 16 1) - r))) hC wu_X8 rfl tyX8_ok nmX8 dX8_payBack_7 0 6 (by decide) wf_X8_50 rfl rfl (Nat.le_of_ble_eq_true rfl) rfl rfl rfl ?_
  refine J_aload_n hC dX8_payBack_10 0 rfl rfl ?_
  refine J_dup hC dX8_payBack_11 rfl ?_
  refine J_get (v := .int (S 16 8)) hC wu_X8 rfl dX8_payBack_12 0 13 (by decide) wf_X8_71 rfl rfl ?_
  refine J_iload_n hC dX8_payBack_15 1 rfl rfl ?_
  refine J_iadd (v := (S 16 8) + r) hC dX8_payBack_16 rfl ?_
  refine J_put (ws' := stW G a (us (us S 16 1 ((S 16 1) - r)) 16 8 ((S 16 8) + r))) hC wu_X8 rfl tyX8_ok nmX8 dX8_payBack_17 0 13 (by decide) wf_X8_71 rfl rfl (Nat.le_of_ble_eq_true rfl) rfl rfl rfl ?_
  refine J_vret hC hR dX8_payBack_20 () ?_ ?_ (by decide) (by decide)
  · trivial
  · rfl

set_option maxRecDepth 100000 in
set_option maxHeartbeats 4000000 in
theorem c_X8_refusalToPrint (l : Launch) (G : gT) (a : Nat → Nat) (S : CT) (bc : Nat) (v : Int32) (d : Int32) (hbc : S 16 12 = nI bc) (bbc : bc ≤ 30) : MI l yX8_refusalToPrint cX8_refusalToPrint 3 (some .int) { frames := 1, cells := 0, slots := 0, locals := 23 } [.ref (a 0), .int v, .int d] G (stW G a S) (fun r (_ : Unit) => r = s_refusal S v d bc) (fun _ => stW G a S) := by
  refine jm_i (own := RX8) (by decide) rfl (Nat.le_of_ble_eq_true rfl) (fun x hl hC hR hN => ?_)
  subst hl
  refine J_iload_n hC dX8_refusalToPrint_0 2 rfl rfl ?_
  refine J_aload_n hC dX8_refusalToPrint_1 0 rfl rfl ?_
  refine J_get (v := .int (S 16 0)) hC wu_X8 rfl dX8_refusalToPrint_2 0 5 (by decide) wf_X8_46 rfl rfl ?_
  refine J_iconst (v := 1) hC dX8_refusalToPrint_5 rfl ?_
  refine J_iadd (v := (S 16 0) + 1) hC dX8_refusalToPrint_6 rfl ?_
  refine J_aload_n hC dX8_refusalToPrint_7 0 rfl rfl ?_
  refine J_get (v := .int (S 16 0)) hC wu_X8 rfl dX8_refusalToPrint_8 0 5 (by decide) wf_X8_46 rfl rfl ?_
  refine J_bipush (v := 30) hC dX8_refusalToPrint_11 (by decide +kernel) ?_
  refine J_iadd (v := (S 16 0) + 30) hC dX8_refusalToPrint_13 rfl ?_
  refine J_callSNi hC dX8_refusalToPrint_14 wln_X8_100 yi_X10_isBetween (c_X10_isBetween _ G (stW G a S) d ((S 16 0) + 1) ((S 16 0) + 30)) rfl rfl ⟨Nat.le_of_ble_eq_true rfl, Nat.le_of_ble_eq_true rfl⟩ (Nat.le_of_ble_eq_true rfl) (Nat.le_of_ble_eq_true rfl) (Nat.le_of_ble_eq_true rfl) (fun r u h_14 => ?_)
  rcases h_14 with ⟨rfl, c_14⟩ | ⟨rfl, c_14⟩
  · refine J_if_ne (tgt := 22) hC dX8_refusalToPrint_17 (by decide) (fun _ => ?_) (fun c => absurd c (by decide))
    refine J_aload_n hC dX8_refusalToPrint_22 0 rfl rfl ?_
    refine J_get (v := .ref (a 14)) hC wu_X8 rfl dX8_refusalToPrint_23 0 3 (by decide) wf_X8_35 rfl rfl ?_
    refine J_iload_n hC dX8_refusalToPrint_26 1 rfl rfl ?_
    refine J_iload_n hC dX8_refusalToPrint_27 2 rfl rfl ?_
    refine J_callVi hC dX8_refusalToPrint_28 wl_X8_104 yi_X0_placeOf (c_X0_placeOf _ G a S bc v d (hbc) (by omega)) rfl rfl 14 0 rfl rfl ⟨Nat.le_of_ble_eq_true rfl, Nat.le_of_ble_eq_true rfl⟩ (Nat.le_of_ble_eq_true rfl) (Nat.le_of_ble_eq_true rfl) (Nat.le_of_ble_eq_true rfl) (fun r u h_28 => ?_)
    subst h_28
    rcases placeOf_cases S v d bc with p_28 | ⟨k_28, hk_28, p_28, -, -⟩
    · refine J_topi p_28 ?_
      refine J_iconst (v := (-1)) hC dX8_refusalToPrint_31 rfl ?_
      refine J_ic_eq (tgt := 37) hC dX8_refusalToPrint_32 (by decide) (fun _ => ?_) (fun c => absurd (by decide) c)
      refine J_aload_n hC dX8_refusalToPrint_37 0 rfl rfl ?_
      refine J_get (v := .ref (a 14)) hC wu_X8 rfl dX8_refusalToPrint_38 0 3 (by decide) wf_X8_35 rfl rfl ?_
      refine J_get (v := .int (S 16 12)) hC wu_X0 rfl dX8_refusalToPrint_41 14 5 (by decide) wf_X8_78 rfl rfl ?_
      refine J_topi hbc ?_
      refine J_bipush (v := 30) hC dX8_refusalToPrint_44 (by decide +kernel) ?_
      refine J_ic_ltN (a := bc) (b := 30) (tgt := 53) hC dX8_refusalToPrint_46 (by decide) (by omega) (by omega) (fun (c_46 : bc < 30) => ?_) (fun (c_46 : 30 ≤ bc) => ?_)
      · refine J_iconst (v := 0) hC dX8_refusalToPrint_53 rfl ?_
        refine J_iret hC hR dX8_refusalToPrint_54 rfl () ?_ ?_ (by decide) (by decide)
        · rw [s_refusal, if_pos c_14, if_pos p_28, if_pos c_46]
        · rfl
      · refine J_iconst (v := 3) hC dX8_refusalToPrint_49 rfl ?_
        refine J_goto (tgt := 54) hC dX8_refusalToPrint_50 (by decide) ?_
        refine J_iret hC hR dX8_refusalToPrint_54 rfl () ?_ ?_ (by decide) (by decide)
        · rw [s_refusal, if_pos c_14, if_pos p_28, if_neg (by omega)]
        · rfl
    · refine J_topi p_28 ?_
      refine J_iconst (v := (-1)) hC dX8_refusalToPrint_31 rfl ?_
      refine J_ic_eq (tgt := 37) hC dX8_refusalToPrint_32 (by decide) (fun c => absurd c (nI_ne_m1 (by omega))) (fun _ => ?_)
      refine J_iconst (v := 2) hC dX8_refusalToPrint_35 rfl ?_
      refine J_iret hC hR dX8_refusalToPrint_36 rfl () ?_ ?_ (by decide) (by decide)
      · rw [s_refusal, if_pos c_14, if_neg (by rw [p_28]; exact nI_ne_m1 (by omega))]
      · rfl
  · refine J_if_ne (tgt := 22) hC dX8_refusalToPrint_17 (by decide) (fun c => absurd (by decide) c) (fun _ => ?_)
    refine J_iconst (v := 1) hC dX8_refusalToPrint_20 rfl ?_
    refine J_iret hC hR dX8_refusalToPrint_21 rfl () ?_ ?_ (by decide) (by decide)
    · rw [s_refusal, if_neg c_14]
    · rfl

set_option maxRecDepth 100000 in
set_option maxHeartbeats 4000000 in
theorem c_X8_canPayBackPage (l : Launch) (G : gT) (a : Nat → Nat) (S : CT) (bc : Nat) (pg : Nat) (hbc : S 16 12 = nI bc) (bbc : bc ≤ 30) (hpg : pg ≤ 30) : MI l yX8_canPayBackPage cX8_canPayBackPage 2 (some .boolean) { frames := 3, cells := 0, slots := 0, locals := 68 } [.ref (a 0), .int (nI pg)] G (stW G a S) (fun r (_ : Unit) => (r = 1 ∧ s_canPay S pg bc) ∨ (r = 0 ∧ ¬ (s_canPay S pg bc))) (fun _ => stW G a S) := by
  refine jm_i (own := RX8) (by decide) rfl (Nat.le_of_ble_eq_true rfl) (fun x hl hC hR hN => ?_)
  subst hl
  refine J_aload_n hC dX8_canPayBackPage_0 0 rfl rfl ?_
  refine J_get (v := .int (S 16 1)) hC wu_X8 rfl dX8_canPayBackPage_1 0 6 (by decide) wf_X8_50 rfl rfl ?_
  refine J_aload_n hC dX8_canPayBackPage_4 0 rfl rfl ?_
  refine J_get (v := .ref (a 14)) hC wu_X8 rfl dX8_canPayBackPage_5 0 3 (by decide) wf_X8_35 rfl rfl ?_
  refine J_iload_n hC dX8_canPayBackPage_8 1 rfl rfl ?_
  refine J_callVi hC dX8_canPayBackPage_9 wl_X8_108 yi_X0_paidForPage (c_X0_paidForPage _ G a S bc pg (hbc) (by omega) (by omega)) rfl rfl 14 0 rfl rfl ⟨Nat.le_of_ble_eq_true rfl, Nat.le_of_ble_eq_true rfl⟩ (Nat.le_of_ble_eq_true rfl) (Nat.le_of_ble_eq_true rfl) (Nat.le_of_ble_eq_true rfl) (fun r u h_9 => ?_)
  subst h_9
  refine J_ic_lt (tgt := 19) hC dX8_canPayBackPage_12 (by decide) (fun (c_12 : (S 16 1) < (s_paidForPage S pg bc)) => ?_) (fun (c_12 : ¬ (S 16 1) < (s_paidForPage S pg bc)) => ?_)
  · refine J_iconst (v := 0) hC dX8_canPayBackPage_19 rfl ?_
    refine J_iret hC hR dX8_canPayBackPage_20 rfl () ?_ ?_ (by decide) (by decide)
    · exact Or.inr ⟨rfl, fun h => h c_12⟩
    · rfl
  · refine J_iconst (v := 1) hC dX8_canPayBackPage_15 rfl ?_
    refine J_goto (tgt := 20) hC dX8_canPayBackPage_16 (by decide) ?_
    refine J_iret hC hR dX8_canPayBackPage_20 rfl () ?_ ?_ (by decide) (by decide)
    · exact Or.inl ⟨rfl, c_12⟩
    · rfl

set_option maxRecDepth 100000 in
set_option maxHeartbeats 4000000 in
theorem c_X8_clear (l : Launch) (G : gT) (a : Nat → Nat) (S : CT) : MV l yX8_clear cX8_clear 2 { frames := 0, cells := 0, slots := 0, locals := 0 } [.ref (a 0)] G (stW G a S) (fun (_ : Unit) => True) (fun _ => stW G a (s_clear S)) := by
  refine jm_v (own := RX8) (by decide) rfl (Nat.le_of_ble_eq_true rfl) (fun x hl hC hR hN => ?_)
  subst hl
  refine J_aload_n hC dX8_clear_0 0 rfl rfl ?_
  refine J_get (v := .ref (a 1)) hC wu_X8 rfl dX8_clear_1 0 0 (by decide) wf_X8_12 rfl rfl ?_
  refine J_iconst (v := 0) hC dX8_clear_4 rfl ?_
  refine J_put (ws' := stW G a (us S 16 9 0)) hC wu_X9 rfl tyX9_ok nmX9 dX8_clear_5 1 3 (by decide) wf_X8_74 rfl rfl (Nat.le_of_ble_eq_true rfl) rfl rfl rfl ?_
  refine J_aload_n hC dX8_clear_8 0 rfl rfl ?_
  refine J_get (v := .ref (a 5)) hC wu_X8 rfl dX8_clear_9 0 1 (by decide) wf_X8_21 rfl rfl ?_
  refine J_iconst (v := 0) hC dX8_clear_12 rfl ?_
  refine J_put (ws' := stW G a (us (us S 16 9 0) 16 10 0)) hC wu_X2 rfl tyX2_ok nmX2 dX8_clear_13 5 5 (by decide) wf_X8_77 rfl rfl (Nat.le_of_ble_eq_true rfl) rfl rfl rfl ?_
  refine J_aload_n hC dX8_clear_16 0 rfl rfl ?_
  refine J_get (v := .ref (a 14)) hC wu_X8 rfl dX8_clear_17 0 3 (by decide) wf_X8_35 rfl rfl ?_
  refine J_iconst (v := 0) hC dX8_clear_20 rfl ?_
  refine J_put (ws' := stW G a (us (us (us S 16 9 0) 16 10 0) 16 12 0)) hC wu_X0 rfl tyX0_ok nmX0 dX8_clear_21 14 5 (by decide) wf_X8_78 rfl rfl (Nat.le_of_ble_eq_true rfl) rfl rfl rfl ?_
  refine J_aload_n hC dX8_clear_24 0 rfl rfl ?_
  refine J_get (v := .ref (a 20)) hC wu_X8 rfl dX8_clear_25 0 4 (by decide) wf_X8_42 rfl rfl ?_
  refine J_iconst (v := 0) hC dX8_clear_28 rfl ?_
  refine J_put (ws' := stW G a (us (us (us (us S 16 9 0) 16 10 0) 16 12 0) 16 13 0)) hC wu_X4 rfl tyX4_ok nmX4 dX8_clear_29 20 1 (by decide) wf_X8_79 rfl rfl (Nat.le_of_ble_eq_true rfl) rfl rfl rfl ?_
  refine J_iconst (v := 0) hC dX8_clear_32 rfl ?_
  refine J_istore_n hC [(1, .int 0), (0, .ref (a 0))] dX8_clear_33 rfl (by decide) rfl ?_
  refine J_iload_n hC dX8_clear_34 0 rfl rfl ?_
  refine J_iconst (v := 2) hC dX8_clear_35 rfl ?_
  refine J_ic_gt (tgt := 55) hC dX8_clear_36 (by decide) (fun c => absurd c (by decide)) (fun _ => ?_)
  refine J_aload_n hC dX8_clear_39 1 rfl rfl ?_
  refine J_get (v := .ref (a 11)) hC wu_X8 rfl dX8_clear_40 0 2 (by decide) wf_X8_28 rfl rfl ?_
  refine J_get (v := .ref (a 13)) hC wu_X7 rfl dX8_clear_43 11 1 (by decide) wf_X8_80 rfl rfl ?_
  refine J_iload_n hC dX8_clear_46 0 rfl rfl ?_
  refine J_iconst (v := 0) hC dX8_clear_47 rfl ?_
  refine J_iast (i := 0) (ws' := stW G a (us (us (us (us (us S 16 9 0) 16 10 0) 16 12 0) 16 13 0) 9 0 0)) hC dX8_clear_48 13 rfl (by omega) (by decide) rfl ?_
  refine J_iinc hC [(1, .int 1), (0, .ref (a 0))] dX8_clear_49 0 rfl (by decide +kernel) (by decide) rfl ?_
  refine J_goto (tgt := 34) hC dX8_clear_52 (by decide) ?_
  refine J_iload_n hC dX8_clear_34 0 rfl rfl ?_
  refine J_iconst (v := 2) hC dX8_clear_35 rfl ?_
  refine J_ic_gt (tgt := 55) hC dX8_clear_36 (by decide) (fun c => absurd c (by decide)) (fun _ => ?_)
  refine J_aload_n hC dX8_clear_39 1 rfl rfl ?_
  refine J_get (v := .ref (a 11)) hC wu_X8 rfl dX8_clear_40 0 2 (by decide) wf_X8_28 rfl rfl ?_
  refine J_get (v := .ref (a 13)) hC wu_X7 rfl dX8_clear_43 11 1 (by decide) wf_X8_80 rfl rfl ?_
  refine J_iload_n hC dX8_clear_46 0 rfl rfl ?_
  refine J_iconst (v := 0) hC dX8_clear_47 rfl ?_
  refine J_iast (i := 1) (ws' := stW G a (us (us (us (us (us (us S 16 9 0) 16 10 0) 16 12 0) 16 13 0) 9 0 0) 9 1 0)) hC dX8_clear_48 13 rfl (by omega) (by decide) rfl ?_
  refine J_iinc hC [(1, .int 2), (0, .ref (a 0))] dX8_clear_49 0 rfl (by decide +kernel) (by decide) rfl ?_
  refine J_goto (tgt := 34) hC dX8_clear_52 (by decide) ?_
  refine J_iload_n hC dX8_clear_34 0 rfl rfl ?_
  refine J_iconst (v := 2) hC dX8_clear_35 rfl ?_
  refine J_ic_gt (tgt := 55) hC dX8_clear_36 (by decide) (fun c => absurd c (by decide)) (fun _ => ?_)
  refine J_aload_n hC dX8_clear_39 1 rfl rfl ?_
  refine J_get (v := .ref (a 11)) hC wu_X8 rfl dX8_clear_40 0 2 (by decide) wf_X8_28 rfl rfl ?_
  refine J_get (v := .ref (a 13)) hC wu_X7 rfl dX8_clear_43 11 1 (by decide) wf_X8_80 rfl rfl ?_
  refine J_iload_n hC dX8_clear_46 0 rfl rfl ?_
  refine J_iconst (v := 0) hC dX8_clear_47 rfl ?_
  refine J_iast (i := 2) (ws' := stW G a (us (us (us (us (us (us (us S 16 9 0) 16 10 0) 16 12 0) 16 13 0) 9 0 0) 9 1 0) 9 2 0)) hC dX8_clear_48 13 rfl (by omega) (by decide) rfl ?_
  refine J_iinc hC [(1, .int 3), (0, .ref (a 0))] dX8_clear_49 0 rfl (by decide +kernel) (by decide) rfl ?_
  refine J_goto (tgt := 34) hC dX8_clear_52 (by decide) ?_
  refine J_iload_n hC dX8_clear_34 0 rfl rfl ?_
  refine J_iconst (v := 2) hC dX8_clear_35 rfl ?_
  refine J_ic_gt (tgt := 55) hC dX8_clear_36 (by decide) (fun _ => ?_) (fun c => absurd (by decide) c)
  refine J_aload_n hC dX8_clear_55 1 rfl rfl ?_
  refine J_iconst (v := 0) hC dX8_clear_56 rfl ?_
  refine J_put (ws' := stW G a (us (us (us (us (us (us (us (us S 16 9 0) 16 10 0) 16 12 0) 16 13 0) 9 0 0) 9 1 0) 9 2 0) 16 0 0)) hC wu_X8 rfl tyX8_ok nmX8 dX8_clear_57 0 5 (by decide) wf_X8_46 rfl rfl (Nat.le_of_ble_eq_true rfl) rfl rfl rfl ?_
  refine J_aload_n hC dX8_clear_60 1 rfl rfl ?_
  refine J_iconst (v := 0) hC dX8_clear_61 rfl ?_
  refine J_put (ws' := stW G a (us (us (us (us (us (us (us (us (us S 16 9 0) 16 10 0) 16 12 0) 16 13 0) 9 0 0) 9 1 0) 9 2 0) 16 0 0) 16 1 0)) hC wu_X8 rfl tyX8_ok nmX8 dX8_clear_62 0 6 (by decide) wf_X8_50 rfl rfl (Nat.le_of_ble_eq_true rfl) rfl rfl rfl ?_
  refine J_aload_n hC dX8_clear_65 1 rfl rfl ?_
  refine J_iconst (v := 0) hC dX8_clear_66 rfl ?_
  refine J_put (ws' := stW G a (us (us (us (us (us (us (us (us (us (us S 16 9 0) 16 10 0) 16 12 0) 16 13 0) 9 0 0) 9 1 0) 9 2 0) 16 0 0) 16 1 0) 16 2 0)) hC wu_X8 rfl tyX8_ok nmX8 dX8_clear_67 0 7 (by decide) wf_X8_53 rfl rfl (Nat.le_of_ble_eq_true rfl) rfl rfl rfl ?_
  refine J_aload_n hC dX8_clear_70 1 rfl rfl ?_
  refine J_iconst (v := 0) hC dX8_clear_71 rfl ?_
  refine J_put (ws' := stW G a (us (us (us (us (us (us (us (us (us (us (us S 16 9 0) 16 10 0) 16 12 0) 16 13 0) 9 0 0) 9 1 0) 9 2 0) 16 0 0) 16 1 0) 16 2 0) 16 3 0)) hC wu_X8 rfl tyX8_ok nmX8 dX8_clear_72 0 8 (by decide) wf_X8_56 rfl rfl (Nat.le_of_ble_eq_true rfl) rfl rfl rfl ?_
  refine J_aload_n hC dX8_clear_75 1 rfl rfl ?_
  refine J_iconst (v := 0) hC dX8_clear_76 rfl ?_
  refine J_put (ws' := stW G a (us (us (us (us (us (us (us (us (us (us (us (us S 16 9 0) 16 10 0) 16 12 0) 16 13 0) 9 0 0) 9 1 0) 9 2 0) 16 0 0) 16 1 0) 16 2 0) 16 3 0) 16 4 0)) hC wu_X8 rfl tyX8_ok nmX8 dX8_clear_77 0 9 (by decide) wf_X8_59 rfl rfl (Nat.le_of_ble_eq_true rfl) rfl rfl rfl ?_
  refine J_aload_n hC dX8_clear_80 1 rfl rfl ?_
  refine J_iconst (v := 0) hC dX8_clear_81 rfl ?_
  refine J_put (ws' := stW G a (us (us (us (us (us (us (us (us (us (us (us (us (us S 16 9 0) 16 10 0) 16 12 0) 16 13 0) 9 0 0) 9 1 0) 9 2 0) 16 0 0) 16 1 0) 16 2 0) 16 3 0) 16 4 0) 16 5 0)) hC wu_X8 rfl tyX8_ok nmX8 dX8_clear_82 0 10 (by decide) wf_X8_62 rfl rfl (Nat.le_of_ble_eq_true rfl) rfl rfl rfl ?_
  refine J_aload_n hC dX8_clear_85 1 rfl rfl ?_
  refine J_iconst (v := 0) hC dX8_clear_86 rfl ?_
  refine J_put (ws' := stW G a (us (us (us (us (us (us (us (us (us (us (us (us (us (us S 16 9 0) 16 10 0) 16 12 0) 16 13 0) 9 0 0) 9 1 0) 9 2 0) 16 0 0) 16 1 0) 16 2 0) 16 3 0) 16 4 0) 16 5 0) 16 6 0)) hC wu_X8 rfl tyX8_ok nmX8 dX8_clear_87 0 11 (by decide) wf_X8_65 rfl rfl (Nat.le_of_ble_eq_true rfl) rfl rfl rfl ?_
  refine J_aload_n hC dX8_clear_90 1 rfl rfl ?_
  refine J_iconst (v := 0) hC dX8_clear_91 rfl ?_
  refine J_put (ws' := stW G a (us (us (us (us (us (us (us (us (us (us (us (us (us (us (us S 16 9 0) 16 10 0) 16 12 0) 16 13 0) 9 0 0) 9 1 0) 9 2 0) 16 0 0) 16 1 0) 16 2 0) 16 3 0) 16 4 0) 16 5 0) 16 6 0) 16 7 0)) hC wu_X8 rfl tyX8_ok nmX8 dX8_clear_92 0 12 (by decide) wf_X8_68 rfl rfl (Nat.le_of_ble_eq_true rfl) rfl rfl rfl ?_
  refine J_aload_n hC dX8_clear_95 1 rfl rfl ?_
  refine J_iconst (v := 0) hC dX8_clear_96 rfl ?_
  refine J_put (ws' := stW G a (us (us (us (us (us (us (us (us (us (us (us (us (us (us (us (us S 16 9 0) 16 10 0) 16 12 0) 16 13 0) 9 0 0) 9 1 0) 9 2 0) 16 0 0) 16 1 0) 16 2 0) 16 3 0) 16 4 0) 16 5 0) 16 6 0) 16 7 0) 16 8 0)) hC wu_X8 rfl tyX8_ok nmX8 dX8_clear_97 0 13 (by decide) wf_X8_71 rfl rfl (Nat.le_of_ble_eq_true rfl) rfl rfl rfl ?_
  refine J_vret hC hR dX8_clear_100 () ?_ ?_ (by decide) (by decide)
  · trivial
  · rfl

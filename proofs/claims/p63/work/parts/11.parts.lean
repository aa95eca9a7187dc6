set_option maxRecDepth 100000 in
set_option maxHeartbeats 4000000 in
theorem c_X10_isBetween (l : Launch) (G : gT) (ws0 : va_W) (v : Int32) (lo : Int32) (hi : Int32) : MI l yX10_isBetween cX10_isBetween 3 (some .boolean) { frames := 0, cells := 0, slots := 0, locals := 0 } [.int v, .int lo, .int hi] G (ws0) (fun r (_ : Unit) => (r = 1 ∧ ¬ v < lo ∧ ¬ hi < v) ∨ (r = 0 ∧ ¬ (¬ v < lo ∧ ¬ hi < v))) (fun _ => ws0) := by
  refine jm_i (own := RX10) (by decide) rfl (Nat.le_of_ble_eq_true rfl) (fun x hl hC hR hN => ?_)
  subst hl
  refine J_iload_n hC dX10_isBetween_0 0 rfl rfl ?_
  refine J_iload_n hC dX10_isBetween_1 1 rfl rfl ?_
  refine J_ic_lt (tgt := 14) hC dX10_isBetween_2 (by decide) (fun (c_2 : v < lo) => ?_) (fun (c_2 : ¬ v < lo) => ?_)
  · refine J_iconst (v := 0) hC dX10_isBetween_14 rfl ?_
    refine J_iret hC hR dX10_isBetween_15 rfl () ?_ ?_ (by decide) (by decide)
    · simp_all
    · rfl
  · refine J_iload_n hC dX10_isBetween_5 0 rfl rfl ?_
    refine J_iload_n hC dX10_isBetween_6 2 rfl rfl ?_
    refine J_ic_gt (tgt := 14) hC dX10_isBetween_7 (by decide) (fun (c_7 : hi < v) => ?_) (fun (c_7 : ¬ hi < v) => ?_)
    · refine J_iconst (v := 0) hC dX10_isBetween_14 rfl ?_
      refine J_iret hC hR dX10_isBetween_15 rfl () ?_ ?_ (by decide) (by decide)
      · simp_all
      · rfl
    · refine J_iconst (v := 1) hC dX10_isBetween_10 rfl ?_
      refine J_goto (tgt := 15) hC dX10_isBetween_11 (by decide) ?_
      refine J_iret hC hR dX10_isBetween_15 rfl () ?_ ?_ (by decide) (by decide)
      · simp_all
      · rfl

set_option maxRecDepth 100000 in
set_option maxHeartbeats 4000000 in
theorem c_X10_isLetter (l : Launch) (G : gT) (ws0 : va_W) (v : Int32) : MI l yX10_isLetter cX10_isLetter 1 (some .boolean) { frames := 0, cells := 0, slots := 0, locals := 0 } [.int v] G (ws0) (fun r (_ : Unit) => (r = 1 ∧ ¬ v < 97 ∧ ¬ 122 < v) ∨ (r = 0 ∧ ¬ (¬ v < 97 ∧ ¬ 122 < v))) (fun _ => ws0) := by
  refine jm_i (own := RX10) (by decide) rfl (Nat.le_of_ble_eq_true rfl) (fun x hl hC hR hN => ?_)
  subst hl
  refine J_iload_n hC dX10_isLetter_0 0 rfl rfl ?_
  refine J_bipush (v := 97) hC dX10_isLetter_1 (by decide +kernel) ?_
  refine J_ic_lt (tgt := 16) hC dX10_isLetter_3 (by decide) (fun (c_3 : v < 97) => ?_) (fun (c_3 : ¬ v < 97) => ?_)
  · refine J_iconst (v := 0) hC dX10_isLetter_16 rfl ?_
    refine J_iret hC hR dX10_isLetter_17 rfl () ?_ ?_ (by decide) (by decide)
    · simp_all
    · rfl
  · refine J_iload_n hC dX10_isLetter_6 0 rfl rfl ?_
    refine J_bipush (v := 122) hC dX10_isLetter_7 (by decide +kernel) ?_
    refine J_ic_gt (tgt := 16) hC dX10_isLetter_9 (by decide) (fun (c_9 : 122 < v) => ?_) (fun (c_9 : ¬ 122 < v) => ?_)
    · refine J_iconst (v := 0) hC dX10_isLetter_16 rfl ?_
      refine J_iret hC hR dX10_isLetter_17 rfl () ?_ ?_ (by decide) (by decide)
      · simp_all
      · rfl
    · refine J_iconst (v := 1) hC dX10_isLetter_12 rfl ?_
      refine J_goto (tgt := 17) hC dX10_isLetter_13 (by decide) ?_
      refine J_iret hC hR dX10_isLetter_17 rfl () ?_ ?_ (by decide) (by decide)
      · simp_all
      · rfl

set_option maxRecDepth 100000 in
set_option maxHeartbeats 4000000 in
theorem c_X10_isDigit (l : Launch) (G : gT) (ws0 : va_W) (v : Int32) : MI l yX10_isDigit cX10_isDigit 1 (some .boolean) { frames := 0, cells := 0, slots := 0, locals := 0 } [.int v] G (ws0) (fun r (_ : Unit) => (r = 1 ∧ ¬ v < 48 ∧ ¬ 57 < v) ∨ (r = 0 ∧ ¬ (¬ v < 48 ∧ ¬ 57 < v))) (fun _ => ws0) := by
  refine jm_i (own := RX10) (by decide) rfl (Nat.le_of_ble_eq_true rfl) (fun x hl hC hR hN => ?_)
  subst hl
  refine J_iload_n hC dX10_isDigit_0 0 rfl rfl ?_
  refine J_bipush (v := 48) hC dX10_isDigit_1 (by decide +kernel) ?_
  refine J_ic_lt (tgt := 16) hC dX10_isDigit_3 (by decide) (fun (c_3 : v < 48) => ?_) (fun (c_3 : ¬ v < 48) => ?_)
  · refine J_iconst (v := 0) hC dX10_isDigit_16 rfl ?_
    refine J_iret hC hR dX10_isDigit_17 rfl () ?_ ?_ (by decide) (by decide)
    · simp_all
    · rfl
  · refine J_iload_n hC dX10_isDigit_6 0 rfl rfl ?_
    refine J_bipush (v := 57) hC dX10_isDigit_7 (by decide +kernel) ?_
    refine J_ic_gt (tgt := 16) hC dX10_isDigit_9 (by decide) (fun (c_9 : 57 < v) => ?_) (fun (c_9 : ¬ 57 < v) => ?_)
    · refine J_iconst (v := 0) hC dX10_isDigit_16 rfl ?_
      refine J_iret hC hR dX10_isDigit_17 rfl () ?_ ?_ (by decide) (by decide)
      · simp_all
      · rfl
    · refine J_iconst (v := 1) hC dX10_isDigit_12 rfl ?_
      refine J_goto (tgt := 17) hC dX10_isDigit_13 (by decide) ?_
      refine J_iret hC hR dX10_isDigit_17 rfl () ?_ ?_ (by decide) (by decide)
      · simp_all
      · rfl

set_option maxRecDepth 100000 in
set_option maxHeartbeats 4000000 in
theorem c_X10_labelOf (l : Launch) (G : gT) (ws0 : va_W) (v : Int32) (d : Int32) : MI l yX10_labelOf cX10_labelOf 2 (some .int) { frames := 0, cells := 0, slots := 0, locals := 0 } [.int v, .int d] G (ws0) (fun r (_ : Unit) => r = s_label v d) (fun _ => ws0) := by
  refine jm_i (own := RX10) (by decide) rfl (Nat.le_of_ble_eq_true rfl) (fun x hl hC hR hN => ?_)
  subst hl
  refine J_bipush (v := 10) hC dX10_labelOf_0 (by decide +kernel) ?_
  refine J_iload_n hC dX10_labelOf_2 1 rfl rfl ?_
  refine J_imul (v := 10 * d) hC dX10_labelOf_3 rfl ?_
  refine J_iload_n hC dX10_labelOf_4 0 rfl rfl ?_
  refine J_iadd (v := (10 * d) + v) hC dX10_labelOf_5 rfl ?_
  refine J_iret hC hR dX10_labelOf_6 rfl () ?_ ?_ (by decide) (by decide)
  · rfl
  · rfl

set_option maxRecDepth 100000 in
set_option maxHeartbeats 4000000 in
theorem c_X0_placeOf (l : Launch) (G : gT) (a : Nat → Nat) (S : CT) (bc : Nat) (v : Int32) (d : Int32) (hbc : S 16 12 = nI bc) (bbc : bc ≤ 30) : MI l yX0_placeOf cX0_placeOf 4 (some .int) { frames := 0, cells := 0, slots := 0, locals := 0 } [.ref (a 14), .int v, .int d] G (stW G a S) (fun r (_ : Unit) => r = s_placeOf S v d bc) (fun _ => stW G a S) := by
  refine jm_i (own := RX0) (by decide) rfl (Nat.le_of_ble_eq_true rfl) (fun x hl hC hR hN => ?_)
  subst hl
  have key : ∀ fuel : Nat, (∀ (i : Nat), (i ≤ bc) → (s_placeOf S v d bc = fnd (bkp S v d) i (bc - i)) → bc - i < fuel → J x G (stW G a S) 0 0 [(0, .ref (a 14)), (1, .int v), (2, .int d), (3, .int (nI i))] [] 2) := by
    intro fuel
    induction fuel with
    | zero => exact fun _ _ _ h => absurd h (Nat.not_lt_zero _)
    | succ fuel ih =>
      intro i hi hI hmu
      refine J_iload_n hC dX0_placeOf_2 3 rfl rfl ?_
      refine J_aload_n hC dX0_placeOf_3 0 rfl rfl ?_
      refine J_get (v := .int (S 16 12)) hC wu_X0 rfl dX0_placeOf_4 14 5 (by decide) wf_X0_27 rfl rfl ?_
      refine J_topi hbc ?_
      refine J_ic_geN (a := i) (b := bc) (tgt := 38) hC dX0_placeOf_7 (by decide) (by omega) (by omega) (fun (c_7 : bc ≤ i) => ?_) (fun (c_7 : i < bc) => ?_)
      · refine J_iconst (v := (-1)) hC dX0_placeOf_38 rfl ?_
        refine J_iret hC hR dX0_placeOf_39 rfl () ?_ ?_ (by decide) (by decide)
        · exact (hI.trans (fnd_done c_7)).symm
        · rfl
      · refine J_aload_n hC dX0_placeOf_10 0 rfl rfl ?_
        refine J_get (v := .ref (a 15)) hC wu_X0 rfl dX0_placeOf_11 14 0 (by decide) wf_X0_9 rfl rfl ?_
        refine J_iload_n hC dX0_placeOf_14 3 rfl rfl ?_
        refine J_iald (i := i) (v := S 10 i) hC dX0_placeOf_15 15 rfl (by omega) (by decide) rfl ?_
        refine J_iload_n hC dX0_placeOf_16 1 rfl rfl ?_
        refine J_ic_ne (tgt := 32) hC dX0_placeOf_17 (by decide) (fun (c_17 : ¬ (S 10 i) = v) => ?_) (fun (c_17 : (S 10 i) = v) => ?_)
        · refine J_iinc hC [(3, .int (nI (i + 1))), (0, .ref (a 14)), (1, .int v), (2, .int d)] dX0_placeOf_32 3 rfl (nI_inc _) (by decide) rfl ?_
          refine J_goto (tgt := 2) hC dX0_placeOf_35 (by decide) ?_
          refine J_lv (lv' := [(0, .ref (a 14)), (1, .int v), (2, .int d), (3, .int (nI (i + 1)))]) [1, 2, 3, 0] rfl ?_
          exact ih (i + 1) (by omega) (hI.trans (fnd_step c_7 (by simp [bkp, c_7, c_17]))) (by omega)
        · refine J_aload_n hC dX0_placeOf_20 0 rfl rfl ?_
          refine J_get (v := .ref (a 16)) hC wu_X0 rfl dX0_placeOf_21 14 1 (by decide) wf_X0_15 rfl rfl ?_
          refine J_iload_n hC dX0_placeOf_24 3 rfl rfl ?_
          refine J_iald (i := i) (v := S 11 i) hC dX0_placeOf_25 16 rfl (by omega) (by decide) rfl ?_
          refine J_iload_n hC dX0_placeOf_26 2 rfl rfl ?_
          refine J_ic_ne (tgt := 32) hC dX0_placeOf_27 (by decide) (fun (c_27 : ¬ (S 11 i) = d) => ?_) (fun (c_27 : (S 11 i) = d) => ?_)
          · refine J_iinc hC [(3, .int (nI (i + 1))), (0, .ref (a 14)), (1, .int v), (2, .int d)] dX0_placeOf_32 3 rfl (nI_inc _) (by decide) rfl ?_
            refine J_goto (tgt := 2) hC dX0_placeOf_35 (by decide) ?_
            refine J_lv (lv' := [(0, .ref (a 14)), (1, .int v), (2, .int d), (3, .int (nI (i + 1)))]) [1, 2, 3, 0] rfl ?_
            exact ih (i + 1) (by omega) (hI.trans (fnd_step c_7 (by simp [bkp, c_7, c_17, c_27]))) (by omega)
          · refine J_iload_n hC dX0_placeOf_30 3 rfl rfl ?_
            refine J_iret hC hR dX0_placeOf_31 rfl () ?_ ?_ (by decide) (by decide)
            · exact (hI.trans (fnd_hit c_7 (by simp [bkp, c_7, c_17, c_27]))).symm
            · rfl
  refine J_iconst (v := 0) hC dX0_placeOf_0 rfl ?_
  refine J_istore_n hC [(3, .int 0), (0, .ref (a 14)), (1, .int v), (2, .int d)] dX0_placeOf_1 rfl (by decide) rfl ?_
  refine J_lv (lv' := [(0, .ref (a 14)), (1, .int v), (2, .int d), (3, .int 0)]) [1, 2, 3, 0] rfl ?_
  exact (key _) 0 (by omega) (rfl) (Nat.lt_succ_self _)

set_option maxRecDepth 100000 in
set_option maxHeartbeats 4000000 in
theorem c_X0_labelAt (l : Launch) (G : gT) (a : Nat → Nat) (S : CT) (p : Nat) (hp : p < 30) : MI l yX0_labelAt cX0_labelAt 2 (some .int) { frames := 1, cells := 0, slots := 0, locals := 21 } [.ref (a 14), .int (nI p)] G (stW G a S) (fun r (_ : Unit) => r = s_label (S 10 p) (S 11 p)) (fun _ => stW G a S) := by
  refine jm_i (own := RX0) (by decide) rfl (Nat.le_of_ble_eq_true rfl) (fun x hl hC hR hN => ?_)
  subst hl
  refine J_aload_n hC dX0_labelAt_0 0 rfl rfl ?_
  refine J_get (v := .ref (a 15)) hC wu_X0 rfl dX0_labelAt_1 14 0 (by decide) wf_X0_9 rfl rfl ?_
  refine J_iload_n hC dX0_labelAt_4 1 rfl rfl ?_
  refine J_iald (i := p) (v := S 10 p) hC dX0_labelAt_5 15 rfl (by omega) (by decide) rfl ?_
  refine J_aload_n hC dX0_labelAt_6 0 rfl rfl ?_
  refine J_get (v := .ref (a 16)) hC wu_X0 rfl dX0_labelAt_7 14 1 (by decide) wf_X0_15 rfl rfl ?_
  refine J_iload_n hC dX0_labelAt_10 1 rfl rfl ?_
  refine J_iald (i := p) (v := S 11 p) hC dX0_labelAt_11 16 rfl (by omega) (by decide) rfl ?_
  refine J_callSNi hC dX0_labelAt_12 wln_X0_31 yi_X10_labelOf (c_X10_labelOf _ G (stW G a S) (S 10 p) (S 11 p)) rfl rfl ⟨Nat.le_of_ble_eq_true rfl, Nat.le_of_ble_eq_true rfl⟩ (Nat.le_of_ble_eq_true rfl) (Nat.le_of_ble_eq_true rfl) (Nat.le_of_ble_eq_true rfl) (fun r u h_12 => ?_)
  subst h_12
  refine J_iret hC hR dX0_labelAt_15 rfl () ?_ ?_ (by decide) (by decide)
  · rfl
  · rfl

set_option maxRecDepth 100000 in
set_option maxHeartbeats 4000000 in
theorem c_X0_add (l : Launch) (G : gT) (a : Nat → Nat) (S : CT) (bc : Nat) (v : Int32) (d : Int32) (w : Int32) (hbc : S 16 12 = nI bc) (bbc : bc ≤ 29) : MV l yX0_add cX0_add 4 { frames := 0, cells := 0, slots := 0, locals := 0 } [.ref (a 14), .int v, .int d, .int w] G (stW G a S) (fun (_ : Unit) => True) (fun _ => stW G a (s_bookAdd S v d w bc)) := by
  refine jm_v (own := RX0) (by decide) rfl (Nat.le_of_ble_eq_true rfl) (fun x hl hC hR hN => ?_)
  subst hl
  refine J_aload_n hC dX0_add_0 0 rfl rfl ?_
  refine J_get (v := .int (S 16 12)) hC wu_X0 rfl dX0_add_1 14 5 (by decide) wf_X0_27 rfl rfl ?_
  refine J_topi hbc ?_
  refine J_bipush (v := 30) hC dX0_add_4 (by decide +kernel) ?_
  refine J_ic_ltN (a := bc) (b := 30) (tgt := 10) hC dX0_add_6 (by decide) (by omega) (by omega) (fun (c_6 : bc < 30) => ?_) (fun (c_6 : 30 ≤ bc) => ?_)
  · refine J_aload_n hC dX0_add_10 0 rfl rfl ?_
    refine J_get (v := .ref (a 15)) hC wu_X0 rfl dX0_add_11 14 0 (by decide) wf_X0_9 rfl rfl ?_
    refine J_aload_n hC dX0_add_14 0 rfl rfl ?_
    refine J_get (v := .int (S 16 12)) hC wu_X0 rfl dX0_add_15 14 5 (by decide) wf_X0_27 rfl rfl ?_
    refine J_topi hbc ?_
    refine J_iload_n hC dX0_add_18 1 rfl rfl ?_
    refine J_iast (i := bc) (ws' := stW G a (us S 10 bc v)) hC dX0_add_19 15 rfl (by omega) (by decide) rfl ?_
    refine J_aload_n hC dX0_add_20 0 rfl rfl ?_
    refine J_get (v := .ref (a 16)) hC wu_X0 rfl dX0_add_21 14 1 (by decide) wf_X0_15 rfl rfl ?_
    refine J_aload_n hC dX0_add_24 0 rfl rfl ?_
    refine J_get (v := .int (S 16 12)) hC wu_X0 rfl dX0_add_25 14 5 (by decide) wf_X0_27 rfl rfl ?_
    refine J_topi hbc ?_
    refine J_iload_n hC dX0_add_28 2 rfl rfl ?_
    refine J_iast (i := bc) (ws' := stW G a (us (us S 10 bc v) 11 bc d)) hC dX0_add_29 16 rfl (by omega) (by decide) rfl ?_
    refine J_aload_n hC dX0_add_30 0 rfl rfl ?_
    refine J_get (v := .ref (a 17)) hC wu_X0 rfl dX0_add_31 14 2 (by decide) wf_X0_18 rfl rfl ?_
    refine J_aload_n hC dX0_add_34 0 rfl rfl ?_
    refine J_get (v := .int (S 16 12)) hC wu_X0 rfl dX0_add_35 14 5 (by decide) wf_X0_27 rfl rfl ?_
    refine J_topi hbc ?_
    refine J_iload_n hC dX0_add_38 3 rfl rfl ?_
    refine J_iast (i := bc) (ws' := stW G a (us (us (us S 10 bc v) 11 bc d) 12 bc w)) hC dX0_add_39 17 rfl (by omega) (by decide) rfl ?_
    refine J_aload_n hC dX0_add_40 0 rfl rfl ?_
    refine J_get (v := .ref (a 18)) hC wu_X0 rfl dX0_add_41 14 3 (by decide) wf_X0_21 rfl rfl ?_
    refine J_aload_n hC dX0_add_44 0 rfl rfl ?_
    refine J_get (v := .int (S 16 12)) hC wu_X0 rfl dX0_add_45 14 5 (by decide) wf_X0_27 rfl rfl ?_
    refine J_topi hbc ?_
    refine J_iconst (v := 0) hC dX0_add_48 rfl ?_
    refine J_iast (i := bc) (ws' := stW G a (us (us (us (us S 10 bc v) 11 bc d) 12 bc w) 13 bc 0)) hC dX0_add_49 18 rfl (by omega) (by decide) rfl ?_
    refine J_aload_n hC dX0_add_50 0 rfl rfl ?_
    refine J_get (v := .ref (a 19)) hC wu_X0 rfl dX0_add_51 14 4 (by decide) wf_X0_24 rfl rfl ?_
    refine J_aload_n hC dX0_add_54 0 rfl rfl ?_
    refine J_get (v := .int (S 16 12)) hC wu_X0 rfl dX0_add_55 14 5 (by decide) wf_X0_27 rfl rfl ?_
    refine J_topi hbc ?_
    refine J_iconst (v := 0) hC dX0_add_58 rfl ?_
    refine J_iast (i := bc) (ws' := stW G a (us (us (us (us (us S 10 bc v) 11 bc d) 12 bc w) 13 bc 0) 14 bc 0)) hC dX0_add_59 19 rfl (by omega) (by decide) rfl ?_
    refine J_aload_n hC dX0_add_60 0 rfl rfl ?_
    refine J_dup hC dX0_add_61 rfl ?_
    refine J_get (v := .int (S 16 12)) hC wu_X0 rfl dX0_add_62 14 5 (by decide) wf_X0_27 rfl rfl ?_
    refine J_topi hbc ?_
    refine J_iconst (v := 1) hC dX0_add_65 rfl ?_
    refine J_iadd (v := nI (bc + 1)) hC dX0_add_66 (nI_add bc 1) ?_
    refine J_put (ws' := stW G a (us (us (us (us (us (us S 10 bc v) 11 bc d) 12 bc w) 13 bc 0) 14 bc 0) 16 12 (nI (bc + 1)))) hC wu_X0 rfl tyX0_ok nmX0 dX0_add_67 14 5 (by decide) wf_X0_27 rfl rfl (Nat.le_of_ble_eq_true rfl) rfl rfl rfl ?_
    refine J_vret hC hR dX0_add_70 () ?_ ?_ (by decide) (by decide)
    · trivial
    · rfl
  · exfalso; omega

set_option maxRecDepth 100000 in
set_option maxHeartbeats 4000000 in
theorem c_X0_remove (l : Launch) (G : gT) (a : Nat → Nat) (S : CT) (bc : Nat) (p : Nat) (e : Nat) (hbc : S 16 12 = nI bc) (bbc : bc ≤ 30) (hpe : p ≤ e) (hec : e ≤ bc) : MV l yX0_remove cX0_remove 4 { frames := 1, cells := 0, slots := 0, locals := 32 } [.ref (a 14), .int (nI p), .int (nI e)] G (stW G a S) (fun (_ : Unit) => True) (fun _ => stW G a (s_remove S p e bc)) := by
  refine jm_v (own := RX0) (by decide) rfl (Nat.le_of_ble_eq_true rfl) (fun x hl hC hR hN => ?_)
  subst hl
  refine J_iload_n hC dX0_remove_0 1 rfl rfl ?_
  refine J_if_ltN (a := p) (tgt := 17) hC dX0_remove_1 (by decide) (by omega) ?_
  refine J_iload_n hC dX0_remove_4 1 rfl rfl ?_
  refine J_iload_n hC dX0_remove_5 2 rfl rfl ?_
  refine J_ic_gtN (a := p) (b := e) (tgt := 17) hC dX0_remove_6 (by decide) (by omega) (by omega) (fun (c_6 : e < p) => ?_) (fun (c_6 : p ≤ e) => ?_)
  · exfalso; omega
  · refine J_iload_n hC dX0_remove_9 2 rfl rfl ?_
    refine J_aload_n hC dX0_remove_10 0 rfl rfl ?_
    refine J_get (v := .int (S 16 12)) hC wu_X0 rfl dX0_remove_11 14 5 (by decide) wf_X0_27 rfl rfl ?_
    refine J_topi hbc ?_
    refine J_ic_leN (a := e) (b := bc) (tgt := 18) hC dX0_remove_14 (by decide) (by omega) (by omega) (fun (c_14 : e ≤ bc) => ?_) (fun (c_14 : bc < e) => ?_)
    · refine J_aload_n hC dX0_remove_18 0 rfl rfl ?_
      refine J_get (v := .int (S 16 12)) hC wu_X0 rfl dX0_remove_19 14 5 (by decide) wf_X0_27 rfl rfl ?_
      refine J_topi hbc ?_
      refine J_iload_n hC dX0_remove_22 2 rfl rfl ?_
      refine J_isub (v := nI (bc - e)) hC dX0_remove_23 (pk_sub (a := bc) (b := e) (by omega)) ?_
      refine J_istore_n hC [(3, .int (nI (bc - e))), (0, .ref (a 14)), (1, .int (nI p)), (2, .int (nI e))] dX0_remove_24 rfl (by decide) rfl ?_
      refine J_aload_n hC dX0_remove_25 1 rfl rfl ?_
      refine J_get (v := .ref (a 15)) hC wu_X0 rfl dX0_remove_26 14 0 (by decide) wf_X0_9 rfl rfl ?_
      refine J_iload_n hC dX0_remove_29 3 rfl rfl ?_
      refine J_aload_n hC dX0_remove_30 1 rfl rfl ?_
      refine J_get (v := .ref (a 15)) hC wu_X0 rfl dX0_remove_31 14 0 (by decide) wf_X0_9 rfl rfl ?_
      refine J_iload_n hC dX0_remove_34 2 rfl rfl ?_
      refine J_iload_n hC dX0_remove_35 0 rfl rfl ?_
      refine J_copy (sp := e) (dp := p) (m := bc - e) (ws' := stW G a (ur S 10 (va_cpy (S 10) (S 10) e p (bc - e)))) hC dX0_remove_36 wl_X0_35 15 15 rfl rfl (by omega) (by omega) (by decide) (by decide) (Nat.le_of_ble_eq_true rfl) (Nat.le_of_ble_eq_true rfl) rfl ?_
      refine J_aload_n hC dX0_remove_39 1 rfl rfl ?_
      refine J_get (v := .ref (a 16)) hC wu_X0 rfl dX0_remove_40 14 1 (by decide) wf_X0_15 rfl rfl ?_
      refine J_iload_n hC dX0_remove_43 3 rfl rfl ?_
      refine J_aload_n hC dX0_remove_44 1 rfl rfl ?_
      refine J_get (v := .ref (a 16)) hC wu_X0 rfl dX0_remove_45 14 1 (by decide) wf_X0_15 rfl rfl ?_
      refine J_iload_n hC dX0_remove_48 2 rfl rfl ?_
      refine J_iload_n hC dX0_remove_49 0 rfl rfl ?_
      refine J_copy (sp := e) (dp := p) (m := bc - e) (ws' := stW G a (ur (ur S 10 (va_cpy (S 10) (S 10) e p (bc - e))) 11 (va_cpy (S 11) (S 11) e p (bc - e)))) hC dX0_remove_50 wl_X0_35 16 16 rfl rfl (by omega) (by omega) (by decide) (by decide) (Nat.le_of_ble_eq_true rfl) (Nat.le_of_ble_eq_true rfl) rfl ?_
      refine J_aload_n hC dX0_remove_53 1 rfl rfl ?_
      refine J_get (v := .ref (a 17)) hC wu_X0 rfl dX0_remove_54 14 2 (by decide) wf_X0_18 rfl rfl ?_
      refine J_iload_n hC dX0_remove_57 3 rfl rfl ?_
      refine J_aload_n hC dX0_remove_58 1 rfl rfl ?_
      refine J_get (v := .ref (a 17)) hC wu_X0 rfl dX0_remove_59 14 2 (by decide) wf_X0_18 rfl rfl ?_
      refine J_iload_n hC dX0_remove_62 2 rfl rfl ?_
      refine J_iload_n hC dX0_remove_63 0 rfl rfl ?_
      refine J_copy (sp := e) (dp := p) (m := bc - e) (ws' := stW G a (ur (ur (ur S 10 (va_cpy (S 10) (S 10) e p (bc - e))) 11 (va_cpy (S 11) (S 11) e p (bc - e))) 12 (va_cpy (S 12) (S 12) e p (bc - e)))) hC dX0_remove_64 wl_X0_35 17 17 rfl rfl (by omega) (by omega) (by decide) (by decide) (Nat.le_of_ble_eq_true rfl) (Nat.le_of_ble_eq_true rfl) rfl ?_
      refine J_aload_n hC dX0_remove_67 1 rfl rfl ?_
      refine J_get (v := .ref (a 18)) hC wu_X0 rfl dX0_remove_68 14 3 (by decide) wf_X0_21 rfl rfl ?_
      refine J_iload_n hC dX0_remove_71 3 rfl rfl ?_
      refine J_aload_n hC dX0_remove_72 1 rfl rfl ?_
      refine J_get (v := .ref (a 18)) hC wu_X0 rfl dX0_remove_73 14 3 (by decide) wf_X0_21 rfl rfl ?_
      refine J_iload_n hC dX0_remove_76 2 rfl rfl ?_
      refine J_iload_n hC dX0_remove_77 0 rfl rfl ?_
      refine J_copy (sp := e) (dp := p) (m := bc - e) (ws' := stW G a (ur (ur (ur (ur S 10 (va_cpy (S 10) (S 10) e p (bc - e))) 11 (va_cpy (S 11) (S 11) e p (bc - e))) 12 (va_cpy (S 12) (S 12) e p (bc - e))) 13 (va_cpy (S 13) (S 13) e p (bc - e)))) hC dX0_remove_78 wl_X0_35 18 18 rfl rfl (by omega) (by omega) (by decide) (by decide) (Nat.le_of_ble_eq_true rfl) (Nat.le_of_ble_eq_true rfl) rfl ?_
      refine J_aload_n hC dX0_remove_81 1 rfl rfl ?_
      refine J_get (v := .ref (a 19)) hC wu_X0 rfl dX0_remove_82 14 4 (by decide) wf_X0_24 rfl rfl ?_
      refine J_iload_n hC dX0_remove_85 3 rfl rfl ?_
      refine J_aload_n hC dX0_remove_86 1 rfl rfl ?_
      refine J_get (v := .ref (a 19)) hC wu_X0 rfl dX0_remove_87 14 4 (by decide) wf_X0_24 rfl rfl ?_
      refine J_iload_n hC dX0_remove_90 2 rfl rfl ?_
      refine J_iload_n hC dX0_remove_91 0 rfl rfl ?_
      refine J_copy (sp := e) (dp := p) (m := bc - e) (ws' := stW G a (ur (ur (ur (ur (ur S 10 (va_cpy (S 10) (S 10) e p (bc - e))) 11 (va_cpy (S 11) (S 11) e p (bc - e))) 12 (va_cpy (S 12) (S 12) e p (bc - e))) 13 (va_cpy (S 13) (S 13) e p (bc - e))) 14 (va_cpy (S 14) (S 14) e p (bc - e)))) hC dX0_remove_92 wl_X0_35 19 19 rfl rfl (by omega) (by omega) (by decide) (by decide) (Nat.le_of_ble_eq_true rfl) (Nat.le_of_ble_eq_true rfl) rfl ?_
      refine J_aload_n hC dX0_remove_95 1 rfl rfl ?_
      refine J_iload_n hC dX0_remove_96 2 rfl rfl ?_
      refine J_iload_n hC dX0_remove_97 0 rfl rfl ?_
      refine J_iadd (v := nI (p + (bc - e))) hC dX0_remove_98 (nI_add p (bc - e)) ?_
      refine J_put (ws' := stW G a (us (ur (ur (ur (ur (ur S 10 (va_cpy (S 10) (S 10) e p (bc - e))) 11 (va_cpy (S 11) (S 11) e p (bc - e))) 12 (va_cpy (S 12) (S 12) e p (bc - e))) 13 (va_cpy (S 13) (S 13) e p (bc - e))) 14 (va_cpy (S 14) (S 14) e p (bc - e))) 16 12 (nI (p + (bc - e))))) hC wu_X0 rfl tyX0_ok nmX0 dX0_remove_99 14 5 (by decide) wf_X0_27 rfl rfl (Nat.le_of_ble_eq_true rfl) rfl rfl rfl ?_
      refine J_vret hC hR dX0_remove_102 () ?_ ?_ (by decide) (by decide)
      · trivial
      · rfl
    · exfalso; omega

set_option maxRecDepth 100000 in
set_option maxHeartbeats 4000000 in
theorem c_X0_pages (l : Launch) (G : gT) (a : Nat → Nat) (S : CT) (bc : Nat) (hbc : S 16 12 = nI bc) (bbc : bc ≤ 30) : MI l yX0_pages cX0_pages 1 (some .int) { frames := 0, cells := 0, slots := 0, locals := 0 } [.ref (a 14)] G (stW G a S) (fun r (_ : Unit) => r = nI ((bc + 4 - 1) / 4)) (fun _ => stW G a S) := by
  refine jm_i (own := RX0) (by decide) rfl (Nat.le_of_ble_eq_true rfl) (fun x hl hC hR hN => ?_)
  subst hl
  refine J_aload_n hC dX0_pages_0 0 rfl rfl ?_
  refine J_get (v := .int (S 16 12)) hC wu_X0 rfl dX0_pages_1 14 5 (by decide) wf_X0_27 rfl rfl ?_
  refine J_topi hbc ?_
  refine J_iconst (v := 4) hC dX0_pages_4 rfl ?_
  refine J_iadd (v := nI (bc + 4)) hC dX0_pages_5 (nI_add bc 4) ?_
  refine J_iconst (v := 1) hC dX0_pages_6 rfl ?_
  refine J_isub (v := nI ((bc + 4) - 1)) hC dX0_pages_7 (pk_sub (a := (bc + 4)) (b := 1) (by omega)) ?_
  refine J_iconst (v := 4) hC dX0_pages_8 rfl ?_
  refine J_idiv (v := nI (((bc + 4) - 1) / 4)) hC dX0_pages_9 (by decide) (pk_div (a := ((bc + 4) - 1)) (d := 4) (by omega) (by omega) (by omega)) ?_
  refine J_iret hC hR dX0_pages_10 rfl () ?_ ?_ (by decide) (by decide)
  · rfl
  · rfl

set_option maxRecDepth 100000 in
set_option maxHeartbeats 4000000 in
theorem c_X0_hasPage (l : Launch) (G : gT) (a : Nat → Nat) (S : CT) (bc : Nat) (pg : Int32) (hbc : S 16 12 = nI bc) (bbc : bc ≤ 30) : MI l yX0_hasPage cX0_hasPage 2 (some .boolean) { frames := 1, cells := 0, slots := 0, locals := 20 } [.ref (a 14), .int pg] G (stW G a S) (fun r (_ : Unit) => (r = 1 ∧ ¬ pg < 0 ∧ pg < nI ((bc + 4 - 1) / 4)) ∨ (r = 0 ∧ ¬ (¬ pg < 0 ∧ pg < nI ((bc + 4 - 1) / 4)))) (fun _ => stW G a S) := by
  refine jm_i (own := RX0) (by decide) rfl (Nat.le_of_ble_eq_true rfl) (fun x hl hC hR hN => ?_)
  subst hl
  refine J_iload_n hC dX0_hasPage_0 1 rfl rfl ?_
  refine J_if_lt (tgt := 16) hC dX0_hasPage_1 (by decide) (fun (c_1 : pg < 0) => ?_) (fun (c_1 : ¬ pg < 0) => ?_)
  · refine J_iconst (v := 0) hC dX0_hasPage_16 rfl ?_
    refine J_iret hC hR dX0_hasPage_17 rfl () ?_ ?_ (by decide) (by decide)
    · simp_all
    · rfl
  · refine J_iload_n hC dX0_hasPage_4 1 rfl rfl ?_
    refine J_aload_n hC dX0_hasPage_5 0 rfl rfl ?_
    refine J_callVi hC dX0_hasPage_6 wl_X0_41 yi_X0_pages (c_X0_pages _ G a S bc (hbc) (by omega)) rfl rfl 14 0 rfl rfl ⟨Nat.le_of_ble_eq_true rfl, Nat.le_of_ble_eq_true rfl⟩ (Nat.le_of_ble_eq_true rfl) (Nat.le_of_ble_eq_true rfl) (Nat.le_of_ble_eq_true rfl) (fun r u h_6 => ?_)
    subst h_6
    refine J_ic_ge (tgt := 16) hC dX0_hasPage_9 (by decide) (fun (c_9 : (nI ((bc + 4 - 1) / 4)) ≤ pg) => ?_) (fun (c_9 : ¬ (nI ((bc + 4 - 1) / 4)) ≤ pg) => ?_)
    · refine J_iconst (v := 0) hC dX0_hasPage_16 rfl ?_
      refine J_iret hC hR dX0_hasPage_17 rfl () ?_ ?_ (by decide) (by decide)
      · simp_all
      · rfl
    · refine J_iconst (v := 1) hC dX0_hasPage_12 rfl ?_
      refine J_goto (tgt := 17) hC dX0_hasPage_13 (by decide) ?_
      refine J_iret hC hR dX0_hasPage_17 rfl () ?_ ?_ (by decide) (by decide)
      · simp_all
      · rfl

set_option maxRecDepth 100000 in
set_option maxHeartbeats 4000000 in
theorem c_X0_startOf (l : Launch) (G : gT) (a : Nat → Nat) (S : CT) (pg : Nat) : MI l yX0_startOf cX0_startOf 2 (some .int) { frames := 0, cells := 0, slots := 0, locals := 0 } [.ref (a 14), .int (nI pg)] G (stW G a S) (fun r (_ : Unit) => r = nI (4 * pg)) (fun _ => stW G a S) := by
  refine jm_i (own := RX0) (by decide) rfl (Nat.le_of_ble_eq_true rfl) (fun x hl hC hR hN => ?_)
  subst hl
  refine J_iconst (v := 4) hC dX0_startOf_0 rfl ?_
  refine J_iload_n hC dX0_startOf_1 1 rfl rfl ?_
  refine J_imul (v := nI (4 * pg)) hC dX0_startOf_2 (pk_mul 4 pg) ?_
  refine J_iret hC hR dX0_startOf_3 rfl () ?_ ?_ (by decide) (by decide)
  · rfl
  · rfl

set_option maxRecDepth 100000 in
set_option maxHeartbeats 4000000 in
theorem c_X0_endOf (l : Launch) (G : gT) (a : Nat → Nat) (S : CT) (bc : Nat) (pg : Nat) (hbc : S 16 12 = nI bc) (bbc : bc ≤ 30) (hpg : pg ≤ 30) : MI l yX0_endOf cX0_endOf 2 (some .int) { frames := 1, cells := 0, slots := 0, locals := 24 } [.ref (a 14), .int (nI pg)] G (stW G a S) (fun r (_ : Unit) => r = nI (min bc (4 * pg + 4))) (fun _ => stW G a S) := by
  refine jm_i (own := RX0) (by decide) rfl (Nat.le_of_ble_eq_true rfl) (fun x hl hC hR hN => ?_)
  subst hl
  refine J_aload_n hC dX0_endOf_0 0 rfl rfl ?_
  refine J_get (v := .int (S 16 12)) hC wu_X0 rfl dX0_endOf_1 14 5 (by decide) wf_X0_27 rfl rfl ?_
  refine J_topi hbc ?_
  refine J_iconst (v := 4) hC dX0_endOf_4 rfl ?_
  refine J_iload_n hC dX0_endOf_5 1 rfl rfl ?_
  refine J_imul (v := nI (4 * pg)) hC dX0_endOf_6 (pk_mul 4 pg) ?_
  refine J_iconst (v := 4) hC dX0_endOf_7 rfl ?_
  refine J_iadd (v := nI ((4 * pg) + 4)) hC dX0_endOf_8 (nI_add (4 * pg) 4) ?_
  refine J_mmin (v := nI (min bc ((4 * pg) + 4))) hC dX0_endOf_9 wl_X0_45 (Nat.le_of_ble_eq_true rfl) (Nat.le_of_ble_eq_true rfl) (Nat.le_of_ble_eq_true rfl) (Nat.le_of_ble_eq_true rfl) (nmin_nI (by omega) (by omega)) ?_
  refine J_iret hC hR dX0_endOf_12 rfl () ?_ ?_ (by decide) (by decide)
  · rfl
  · rfl

set_option maxRecDepth 100000 in
set_option maxHeartbeats 4000000 in
theorem c_X0_paidForPage (l : Launch) (G : gT) (a : Nat → Nat) (S : CT) (bc : Nat) (pg : Nat) (hbc : S 16 12 = nI bc) (bbc : bc ≤ 30) (hpg : pg ≤ 30) : MI l yX0_paidForPage cX0_paidForPage 4 (some .int) { frames := 2, cells := 0, slots := 0, locals := 45 } [.ref (a 14), .int (nI pg)] G (stW G a S) (fun r (_ : Unit) => r = s_paidForPage S pg bc) (fun _ => stW G a S) := by
  refine jm_i (own := RX0) (by decide) rfl (Nat.le_of_ble_eq_true rfl) (fun x hl hC hR hN => ?_)
  subst hl
  have key : ∀ fuel : Nat, (∀ (i : Nat) (acc : Int32), (i ≤ 4 * pg + 4) → (s_paidForPage S pg bc = fo (fun i s => s + S 14 i) i (min bc (4 * pg + 4) - i) acc) → 4 * pg + 4 - i < fuel → J x G (stW G a S) 0 0 [(0, .ref (a 14)), (1, .int (nI pg)), (2, .int acc), (3, .int (nI i))] [] 8) := by
    intro fuel
    induction fuel with
    | zero => exact fun _ _ _ _ h => absurd h (Nat.not_lt_zero _)
    | succ fuel ih =>
      intro i acc hi hI hmu
      refine J_iload_n hC dX0_paidForPage_8 3 rfl rfl ?_
      refine J_aload_n hC dX0_paidForPage_9 0 rfl rfl ?_
      refine J_iload_n hC dX0_paidForPage_10 1 rfl rfl ?_
      refine J_callVi hC dX0_paidForPage_11 wl_X0_54 yi_X0_endOf (c_X0_endOf _ G a S bc pg (hbc) (by omega) (by omega)) rfl rfl 14 0 rfl rfl ⟨Nat.le_of_ble_eq_true rfl, Nat.le_of_ble_eq_true rfl⟩ (Nat.le_of_ble_eq_true rfl) (Nat.le_of_ble_eq_true rfl) (Nat.le_of_ble_eq_true rfl) (fun r u h_11 => ?_)
      subst h_11
      refine J_ic_geN (a := i) (b := min bc (4 * pg + 4)) (tgt := 32) hC dX0_paidForPage_14 (by decide) (by omega) (by omega) (fun (c_14 : (min bc (4 * pg + 4)) ≤ i) => ?_) (fun (c_14 : i < (min bc (4 * pg + 4))) => ?_)
      · refine J_iload_n hC dX0_paidForPage_32 2 rfl rfl ?_
        refine J_iret hC hR dX0_paidForPage_33 rfl () ?_ ?_ (by decide) (by decide)
        · exact ((hI.trans (fo_done c_14))).symm
        · rfl
      · refine J_iload_n hC dX0_paidForPage_17 2 rfl rfl ?_
        refine J_aload_n hC dX0_paidForPage_18 0 rfl rfl ?_
        refine J_get (v := .ref (a 19)) hC wu_X0 rfl dX0_paidForPage_19 14 4 (by decide) wf_X0_24 rfl rfl ?_
        refine J_iload_n hC dX0_paidForPage_22 3 rfl rfl ?_
        refine J_iald (i := i) (v := S 14 i) hC dX0_paidForPage_23 19 rfl (by omega) (by decide) rfl ?_
        refine J_iadd (v := acc + (S 14 i)) hC dX0_paidForPage_24 rfl ?_
        refine J_istore_n hC [(2, .int (acc + (S 14 i))), (0, .ref (a 14)), (1, .int (nI pg)), (3, .int (nI i))] dX0_paidForPage_25 rfl (by decide) rfl ?_
        refine J_iinc hC [(3, .int (nI (i + 1))), (2, .int (acc + (S 14 i))), (0, .ref (a 14)), (1, .int (nI pg))] dX0_paidForPage_26 3 rfl (nI_inc _) (by decide) rfl ?_
        refine J_goto (tgt := 8) hC dX0_paidForPage_29 (by decide) ?_
        refine J_lv (lv' := [(0, .ref (a 14)), (1, .int (nI pg)), (2, .int (acc + (S 14 i))), (3, .int (nI (i + 1)))]) [2, 3, 1, 0] rfl ?_
        exact ih (i + 1) (acc + (S 14 i)) (by omega) (hI.trans (fo_step c_14)) (by omega)
  refine J_iconst (v := 0) hC dX0_paidForPage_0 rfl ?_
  refine J_istore_n hC [(2, .int 0), (0, .ref (a 14)), (1, .int (nI pg))] dX0_paidForPage_1 rfl (by decide) rfl ?_
  refine J_aload_n hC dX0_paidForPage_2 1 rfl rfl ?_
  refine J_iload_n hC dX0_paidForPage_3 2 rfl rfl ?_
  refine J_callVi hC dX0_paidForPage_4 wl_X0_50 yi_X0_startOf (c_X0_startOf _ G a S pg) rfl rfl 14 0 rfl rfl ⟨Nat.le_of_ble_eq_true rfl, Nat.le_of_ble_eq_true rfl⟩ (Nat.le_of_ble_eq_true rfl) (Nat.le_of_ble_eq_true rfl) (Nat.le_of_ble_eq_true rfl) (fun r u h_4 => ?_)
  subst h_4
  refine J_istore_n hC [(3, .int (nI (4 * pg))), (2, .int 0), (0, .ref (a 14)), (1, .int (nI pg))] dX0_paidForPage_7 rfl (by decide) rfl ?_
  refine J_lv (lv' := [(0, .ref (a 14)), (1, .int (nI pg)), (2, .int 0), (3, .int (nI (4 * pg)))]) [2, 3, 1, 0] rfl ?_
  exact (key _) (4 * pg) 0 (by omega) (rfl) (Nat.lt_succ_self _)

set_option maxRecDepth 100000 in
set_option maxHeartbeats 4000000 in
theorem c_X0_copies (l : Launch) (G : gT) (a : Nat → Nat) (S : CT) (bc : Nat) (hbc : S 16 12 = nI bc) (bbc : bc ≤ 30) : MI l yX0_copies cX0_copies 3 (some .int) { frames := 0, cells := 0, slots := 0, locals := 0 } [.ref (a 14)] G (stW G a S) (fun r (_ : Unit) => r = s_copies S bc) (fun _ => stW G a S) := by
  refine jm_i (own := RX0) (by decide) rfl (Nat.le_of_ble_eq_true rfl) (fun x hl hC hR hN => ?_)
  subst hl
  have key : ∀ fuel : Nat, (∀ (i : Nat) (acc : Int32), (i ≤ bc) → (s_copies S bc = fo (fun i s => s + S 13 i) i (bc - i) acc) → bc - i < fuel → J x G (stW G a S) 0 0 [(0, .ref (a 14)), (1, .int acc), (2, .int (nI i))] [] 4) := by
    intro fuel
    induction fuel with
    | zero => exact fun _ _ _ _ h => absurd h (Nat.not_lt_zero _)
    | succ fuel ih =>
      intro i acc hi hI hmu
      refine J_iload_n hC dX0_copies_4 2 rfl rfl ?_
      refine J_aload_n hC dX0_copies_5 0 rfl rfl ?_
      refine J_get (v := .int (S 16 12)) hC wu_X0 rfl dX0_copies_6 14 5 (by decide) wf_X0_27 rfl rfl ?_
      refine J_topi hbc ?_
      refine J_ic_geN (a := i) (b := bc) (tgt := 27) hC dX0_copies_9 (by decide) (by omega) (by omega) (fun (c_9 : bc ≤ i) => ?_) (fun (c_9 : i < bc) => ?_)
      · refine J_iload_n hC dX0_copies_27 1 rfl rfl ?_
        refine J_iret hC hR dX0_copies_28 rfl () ?_ ?_ (by decide) (by decide)
        · exact (hI.trans (fo_done c_9)).symm
        · rfl
      · refine J_iload_n hC dX0_copies_12 1 rfl rfl ?_
        refine J_aload_n hC dX0_copies_13 0 rfl rfl ?_
        refine J_get (v := .ref (a 18)) hC wu_X0 rfl dX0_copies_14 14 3 (by decide) wf_X0_21 rfl rfl ?_
        refine J_iload_n hC dX0_copies_17 2 rfl rfl ?_
        refine J_iald (i := i) (v := S 13 i) hC dX0_copies_18 18 rfl (by omega) (by decide) rfl ?_
        refine J_iadd (v := acc + (S 13 i)) hC dX0_copies_19 rfl ?_
        refine J_istore_n hC [(1, .int (acc + (S 13 i))), (0, .ref (a 14)), (2, .int (nI i))] dX0_copies_20 rfl (by decide) rfl ?_
        refine J_iinc hC [(2, .int (nI (i + 1))), (1, .int (acc + (S 13 i))), (0, .ref (a 14))] dX0_copies_21 2 rfl (nI_inc _) (by decide) rfl ?_
        refine J_goto (tgt := 4) hC dX0_copies_24 (by decide) ?_
        refine J_lv (lv' := [(0, .ref (a 14)), (1, .int (acc + (S 13 i))), (2, .int (nI (i + 1)))]) [2, 1, 0] rfl ?_
        exact ih (i + 1) (acc + (S 13 i)) (by omega) (hI.trans (fo_step c_9)) (by omega)
  refine J_iconst (v := 0) hC dX0_copies_0 rfl ?_
  refine J_istore_n hC [(1, .int 0), (0, .ref (a 14))] dX0_copies_1 rfl (by decide) rfl ?_
  refine J_iconst (v := 0) hC dX0_copies_2 rfl ?_
  refine J_istore_n hC [(2, .int 0), (1, .int 0), (0, .ref (a 14))] dX0_copies_3 rfl (by decide) rfl ?_
  refine J_lv (lv' := [(0, .ref (a 14)), (1, .int 0), (2, .int 0)]) [2, 1, 0] rfl ?_
  exact (key _) 0 0 (by omega) (rfl) (Nat.lt_succ_self _)

set_option maxRecDepth 100000 in
set_option maxHeartbeats 4000000 in
theorem c_X0_errors (l : Launch) (G : gT) (a : Nat → Nat) (S : CT) (bc : Nat) (hbc : S 16 12 = nI bc) (bbc : bc ≤ 30) : MI l yX0_errors cX0_errors 3 (some .int) { frames := 1, cells := 0, slots := 0, locals := 23 } [.ref (a 14)] G (stW G a S) (fun r (_ : Unit) => r = s_errors S bc) (fun _ => stW G a S) := by
  refine jm_i (own := RX0) (by decide) rfl (Nat.le_of_ble_eq_true rfl) (fun x hl hC hR hN => ?_)
  subst hl
  have key : ∀ fuel : Nat, (∀ (i : Nat) (acc : Int32), (i ≤ bc) → (s_errors S bc = fo (fun i s => if ¬ s_placeOf S (S 10 i) (S 11 i) bc = nI i then s + 1 else s) i (bc - i) acc) → bc - i < fuel → J x G (stW G a S) 0 0 [(0, .ref (a 14)), (1, .int acc), (2, .int (nI i))] [] 4) := by
    intro fuel
    induction fuel with
    | zero => exact fun _ _ _ _ h => absurd h (Nat.not_lt_zero _)
    | succ fuel ih =>
      intro i acc hi hI hmu
      refine J_iload_n hC dX0_errors_4 2 rfl rfl ?_
      refine J_aload_n hC dX0_errors_5 0 rfl rfl ?_
      refine J_get (v := .int (S 16 12)) hC wu_X0 rfl dX0_errors_6 14 5 (by decide) wf_X0_27 rfl rfl ?_
      refine J_topi hbc ?_
      refine J_ic_geN (a := i) (b := bc) (tgt := 41) hC dX0_errors_9 (by decide) (by omega) (by omega) (fun (c_9 : bc ≤ i) => ?_) (fun (c_9 : i < bc) => ?_)
      · refine J_iload_n hC dX0_errors_41 1 rfl rfl ?_
        refine J_iret hC hR dX0_errors_42 rfl () ?_ ?_ (by decide) (by decide)
        · exact (hI.trans (fo_done c_9)).symm
        · rfl
      · refine J_aload_n hC dX0_errors_12 0 rfl rfl ?_
        refine J_aload_n hC dX0_errors_13 0 rfl rfl ?_
        refine J_get (v := .ref (a 15)) hC wu_X0 rfl dX0_errors_14 14 0 (by decide) wf_X0_9 rfl rfl ?_
        refine J_iload_n hC dX0_errors_17 2 rfl rfl ?_
        refine J_iald (i := i) (v := S 10 i) hC dX0_errors_18 15 rfl (by omega) (by decide) rfl ?_
        refine J_aload_n hC dX0_errors_19 0 rfl rfl ?_
        refine J_get (v := .ref (a 16)) hC wu_X0 rfl dX0_errors_20 14 1 (by decide) wf_X0_15 rfl rfl ?_
        refine J_iload_n hC dX0_errors_23 2 rfl rfl ?_
        refine J_iald (i := i) (v := S 11 i) hC dX0_errors_24 16 rfl (by omega) (by decide) rfl ?_
        refine J_callVi hC dX0_errors_25 wl_X0_60 yi_X0_placeOf (c_X0_placeOf _ G a S bc (S 10 i) (S 11 i) (hbc) (by omega)) rfl rfl 14 0 rfl rfl ⟨Nat.le_of_ble_eq_true rfl, Nat.le_of_ble_eq_true rfl⟩ (Nat.le_of_ble_eq_true rfl) (Nat.le_of_ble_eq_true rfl) (Nat.le_of_ble_eq_true rfl) (fun r u h_25 => ?_)
        subst h_25
        refine J_iload_n hC dX0_errors_28 2 rfl rfl ?_
        refine J_ic_eq (tgt := 35) hC dX0_errors_29 (by decide) (fun (c_29 : (s_placeOf S (S 10 i) (S 11 i) bc) = (nI i)) => ?_) (fun (c_29 : ¬ (s_placeOf S (S 10 i) (S 11 i) bc) = (nI i)) => ?_)
        · refine J_iinc hC [(2, .int (nI (i + 1))), (0, .ref (a 14)), (1, .int acc)] dX0_errors_35 2 rfl (nI_inc _) (by decide) rfl ?_
          refine J_goto (tgt := 4) hC dX0_errors_38 (by decide) ?_
          refine J_lv (lv' := [(0, .ref (a 14)), (1, .int acc), (2, .int (nI (i + 1)))]) [1, 2, 0] rfl ?_
          exact ih (i + 1) acc (by omega) (hI.trans ((fo_step c_9).trans (congrArg _ (by simp [c_9, c_29])))) (by omega)
        · refine J_iinc hC [(1, .int (acc + 1)), (0, .ref (a 14)), (2, .int (nI i))] dX0_errors_32 1 rfl (i_inc (by decide +kernel)) (by decide) rfl ?_
          refine J_iinc hC [(2, .int (nI (i + 1))), (1, .int (acc + 1)), (0, .ref (a 14))] dX0_errors_35 2 rfl (nI_inc _) (by decide) rfl ?_
          refine J_goto (tgt := 4) hC dX0_errors_38 (by decide) ?_
          refine J_lv (lv' := [(0, .ref (a 14)), (1, .int (acc + 1)), (2, .int (nI (i + 1)))]) [2, 1, 0] rfl ?_
          exact ih (i + 1) (acc + 1) (by omega) (hI.trans ((fo_step c_9).trans (congrArg _ (by simp [c_9, c_29])))) (by omega)
  refine J_iconst (v := 0) hC dX0_errors_0 rfl ?_
  refine J_istore_n hC [(1, .int 0), (0, .ref (a 14))] dX0_errors_1 rfl (by decide) rfl ?_
  refine J_iconst (v := 0) hC dX0_errors_2 rfl ?_
  refine J_istore_n hC [(2, .int 0), (1, .int 0), (0, .ref (a 14))] dX0_errors_3 rfl (by decide) rfl ?_
  refine J_lv (lv' := [(0, .ref (a 14)), (1, .int 0), (2, .int 0)]) [2, 1, 0] rfl ?_
  exact (key _) 0 0 (by omega) (rfl) (Nat.lt_succ_self _)

set_option maxRecDepth 100000 in
set_option maxHeartbeats 4000000 in
theorem c_X10_placeIn_v (l : Launch) (G : gT) (a : Nat → Nat) (S : CT) (us_ : Nat) (nm : Int32) (hu : us_ ≤ 6) : MI l yX10_placeIn cX10_placeIn 4 (some .int) { frames := 0, cells := 0, slots := 0, locals := 0 } [.ref (a 2), .int (nI us_), .int nm] G (stW G a S) (fun r (_ : Unit) => r = s_num (S 0) nm us_) (fun _ => stW G a S) := by
  refine jm_i (own := RX10) (by decide) rfl (Nat.le_of_ble_eq_true rfl) (fun x hl hC hR hN => ?_)
  subst hl
  have key : ∀ fuel : Nat, (∀ (i : Nat), (i ≤ us_) → (s_num (S 0) nm us_ = fnd (fun i => decide (S 0 i = nm)) i (us_ - i)) → us_ - i < fuel → J x G (stW G a S) 0 0 [(0, .ref (a 2)), (1, .int (nI us_)), (2, .int nm), (3, .int (nI i))] [] 2) := by
    intro fuel
    induction fuel with
    | zero => exact fun _ _ _ h => absurd h (Nat.not_lt_zero _)
    | succ fuel ih =>
      intro i hi hI hmu
      refine J_iload_n hC dX10_placeIn_2 3 rfl rfl ?_
      refine J_iload_n hC dX10_placeIn_3 1 rfl rfl ?_
      refine J_ic_geN (a := i) (b := us_) (tgt := 22) hC dX10_placeIn_4 (by decide) (by omega) (by omega) (fun (c_4 : us_ ≤ i) => ?_) (fun (c_4 : i < us_) => ?_)
      · refine J_iconst (v := (-1)) hC dX10_placeIn_22 rfl ?_
        refine J_iret hC hR dX10_placeIn_23 rfl () ?_ ?_ (by decide) (by decide)
        · exact (hI.trans (fnd_done c_4)).symm
        · rfl
      · refine J_aload_n hC dX10_placeIn_7 0 rfl rfl ?_
        refine J_iload_n hC dX10_placeIn_8 3 rfl rfl ?_
        refine J_iald (i := i) (v := S 0 i) hC dX10_placeIn_9 2 rfl (by omega) (by decide) rfl ?_
        refine J_iload_n hC dX10_placeIn_10 2 rfl rfl ?_
        refine J_ic_ne (tgt := 16) hC dX10_placeIn_11 (by decide) (fun (c_11 : ¬ (S 0 i) = nm) => ?_) (fun (c_11 : (S 0 i) = nm) => ?_)
        · refine J_iinc hC [(3, .int (nI (i + 1))), (0, .ref (a 2)), (1, .int (nI us_)), (2, .int nm)] dX10_placeIn_16 3 rfl (nI_inc _) (by decide) rfl ?_
          refine J_goto (tgt := 2) hC dX10_placeIn_19 (by decide) ?_
          refine J_lv (lv' := [(0, .ref (a 2)), (1, .int (nI us_)), (2, .int nm), (3, .int (nI (i + 1)))]) [1, 2, 3, 0] rfl ?_
          exact ih (i + 1) (by omega) (hI.trans (fnd_step c_4 (by simp [c_4, c_11]))) (by omega)
        · refine J_iload_n hC dX10_placeIn_14 3 rfl rfl ?_
          refine J_iret hC hR dX10_placeIn_15 rfl () ?_ ?_ (by decide) (by decide)
          · exact (hI.trans (fnd_hit c_4 (by simp [c_4, c_11]))).symm
          · rfl
  refine J_iconst (v := 0) hC dX10_placeIn_0 rfl ?_
  refine J_istore_n hC [(3, .int 0), (0, .ref (a 2)), (1, .int (nI us_)), (2, .int nm)] dX10_placeIn_1 rfl (by decide) rfl ?_
  refine J_lv (lv' := [(0, .ref (a 2)), (1, .int (nI us_)), (2, .int nm), (3, .int 0)]) [1, 2, 3, 0] rfl ?_
  exact (key _) 0 (by omega) (rfl) (Nat.lt_succ_self _)

set_option maxRecDepth 100000 in
set_option maxHeartbeats 4000000 in
theorem c_X10_placeIn_f (l : Launch) (G : gT) (a : Nat → Nat) (S : CT) (us_ : Nat) (nm : Int32) (hu : us_ ≤ 6) : MI l yX10_placeIn cX10_placeIn 4 (some .int) { frames := 0, cells := 0, slots := 0, locals := 0 } [.ref (a 6), .int (nI us_), .int nm] G (stW G a S) (fun r (_ : Unit) => r = s_num (S 3) nm us_) (fun _ => stW G a S) := by
  refine jm_i (own := RX10) (by decide) rfl (Nat.le_of_ble_eq_true rfl) (fun x hl hC hR hN => ?_)
  subst hl
  have key : ∀ fuel : Nat, (∀ (i : Nat), (i ≤ us_) → (s_num (S 3) nm us_ = fnd (fun i => decide (S 3 i = nm)) i (us_ - i)) → us_ - i < fuel → J x G (stW G a S) 0 0 [(0, .ref (a 6)), (1, .int (nI us_)), (2, .int nm), (3, .int (nI i))] [] 2) := by
    intro fuel
    induction fuel with
    | zero => exact fun _ _ _ h => absurd h (Nat.not_lt_zero _)
    | succ fuel ih =>
      intro i hi hI hmu
      refine J_iload_n hC dX10_placeIn_2 3 rfl rfl ?_
      refine J_iload_n hC dX10_placeIn_3 1 rfl rfl ?_
      refine J_ic_geN (a := i) (b := us_) (tgt := 22) hC dX10_placeIn_4 (by decide) (by omega) (by omega) (fun (c_4 : us_ ≤ i) => ?_) (fun (c_4 : i < us_) => ?_)
      · refine J_iconst (v := (-1)) hC dX10_placeIn_22 rfl ?_
        refine J_iret hC hR dX10_placeIn_23 rfl () ?_ ?_ (by decide) (by decide)
        · exact (hI.trans (fnd_done c_4)).symm
        · rfl
      · refine J_aload_n hC dX10_placeIn_7 0 rfl rfl ?_
        refine J_iload_n hC dX10_placeIn_8 3 rfl rfl ?_
        refine J_iald (i := i) (v := S 3 i) hC dX10_placeIn_9 6 rfl (by omega) (by decide) rfl ?_
        refine J_iload_n hC dX10_placeIn_10 2 rfl rfl ?_
        refine J_ic_ne (tgt := 16) hC dX10_placeIn_11 (by decide) (fun (c_11 : ¬ (S 3 i) = nm) => ?_) (fun (c_11 : (S 3 i) = nm) => ?_)
        · refine J_iinc hC [(3, .int (nI (i + 1))), (0, .ref (a 6)), (1, .int (nI us_)), (2, .int nm)] dX10_placeIn_16 3 rfl (nI_inc _) (by decide) rfl ?_
          refine J_goto (tgt := 2) hC dX10_placeIn_19 (by decide) ?_
          refine J_lv (lv' := [(0, .ref (a 6)), (1, .int (nI us_)), (2, .int nm), (3, .int (nI (i + 1)))]) [1, 2, 3, 0] rfl ?_
          exact ih (i + 1) (by omega) (hI.trans (fnd_step c_4 (by simp [c_4, c_11]))) (by omega)
        · refine J_iload_n hC dX10_placeIn_14 3 rfl rfl ?_
          refine J_iret hC hR dX10_placeIn_15 rfl () ?_ ?_ (by decide) (by decide)
          · exact (hI.trans (fnd_hit c_4 (by simp [c_4, c_11]))).symm
          · rfl
  refine J_iconst (v := 0) hC dX10_placeIn_0 rfl ?_
  refine J_istore_n hC [(3, .int 0), (0, .ref (a 6)), (1, .int (nI us_)), (2, .int nm)] dX10_placeIn_1 rfl (by decide) rfl ?_
  refine J_lv (lv' := [(0, .ref (a 6)), (1, .int (nI us_)), (2, .int nm), (3, .int 0)]) [1, 2, 3, 0] rfl ?_
  exact (key _) 0 (by omega) (rfl) (Nat.lt_succ_self _)

set_option maxRecDepth 100000 in
set_option maxHeartbeats 4000000 in
theorem c_X9_has (l : Launch) (G : gT) (a : Nat → Nat) (S : CT) (vc : Nat) (v : Int32) (hvc : S 16 9 = nI vc) (bvc : vc ≤ 6) : MI l yX9_has cX9_has 2 (some .boolean) { frames := 0, cells := 0, slots := 0, locals := 0 } [.ref (a 1), .int v] G (stW G a S) (fun r (_ : Unit) => (r = 1 ∧ ¬ v < 0 ∧ v < nI vc) ∨ (r = 0 ∧ ¬ (¬ v < 0 ∧ v < nI vc))) (fun _ => stW G a S) := by
  refine jm_i (own := RX9) (by decide) rfl (Nat.le_of_ble_eq_true rfl) (fun x hl hC hR hN => ?_)
  subst hl
  refine J_iload_n hC dX9_has_0 1 rfl rfl ?_
  refine J_if_lt (tgt := 16) hC dX9_has_1 (by decide) (fun (c_1 : v < 0) => ?_) (fun (c_1 : ¬ v < 0) => ?_)
  · refine J_iconst (v := 0) hC dX9_has_16 rfl ?_
    refine J_iret hC hR dX9_has_17 rfl () ?_ ?_ (by decide) (by decide)
    · simp_all
    · rfl
  · refine J_iload_n hC dX9_has_4 1 rfl rfl ?_
    refine J_aload_n hC dX9_has_5 0 rfl rfl ?_
    refine J_get (v := .int (S 16 9)) hC wu_X9 rfl dX9_has_6 1 3 (by decide) wf_X9_21 rfl rfl ?_
    refine J_topi hvc ?_
    refine J_ic_ge (tgt := 16) hC dX9_has_9 (by decide) (fun (c_9 : (nI vc) ≤ v) => ?_) (fun (c_9 : ¬ (nI vc) ≤ v) => ?_)
    · refine J_iconst (v := 0) hC dX9_has_16 rfl ?_
      refine J_iret hC hR dX9_has_17 rfl () ?_ ?_ (by decide) (by decide)
      · simp_all
      · rfl
    · refine J_iconst (v := 1) hC dX9_has_12 rfl ?_
      refine J_goto (tgt := 17) hC dX9_has_13 (by decide) ?_
      refine J_iret hC hR dX9_has_17 rfl () ?_ ?_ (by decide) (by decide)
      · simp_all
      · rfl

set_option maxRecDepth 100000 in
set_option maxHeartbeats 4000000 in
theorem c_X9_numberOf (l : Launch) (G : gT) (a : Nat → Nat) (S : CT) (vc : Nat) (nm : Int32) (hvc : S 16 9 = nI vc) (bvc : vc ≤ 6) : MI l yX9_numberOf cX9_numberOf 2 (some .int) { frames := 1, cells := 0, slots := 0, locals := 23 } [.ref (a 1), .int nm] G (stW G a S) (fun r (_ : Unit) => r = s_num (S 0) nm vc) (fun _ => stW G a S) := by
  refine jm_i (own := RX9) (by decide) rfl (Nat.le_of_ble_eq_true rfl) (fun x hl hC hR hN => ?_)
  subst hl
  refine J_aload_n hC dX9_numberOf_0 0 rfl rfl ?_
  refine J_get (v := .ref (a 2)) hC wu_X9 rfl dX9_numberOf_1 1 0 (by decide) wf_X9_9 rfl rfl ?_
  refine J_aload_n hC dX9_numberOf_4 0 rfl rfl ?_
  refine J_get (v := .int (S 16 9)) hC wu_X9 rfl dX9_numberOf_5 1 3 (by decide) wf_X9_21 rfl rfl ?_
  refine J_topi hvc ?_
  refine J_iload_n hC dX9_numberOf_8 1 rfl rfl ?_
  refine J_callSNi hC dX9_numberOf_9 wln_X9_25 yi_X10_placeIn (c_X10_placeIn_v _ G a S vc nm (by omega)) rfl rfl ⟨Nat.le_of_ble_eq_true rfl, Nat.le_of_ble_eq_true rfl⟩ (Nat.le_of_ble_eq_true rfl) (Nat.le_of_ble_eq_true rfl) (Nat.le_of_ble_eq_true rfl) (fun r u h_9 => ?_)
  subst h_9
  refine J_iret hC hR dX9_numberOf_12 rfl () ?_ ?_ (by decide) (by decide)
  · rfl
  · rfl

set_option maxRecDepth 100000 in
set_option maxHeartbeats 4000000 in
theorem c_X9_add (l : Launch) (G : gT) (a : Nat → Nat) (S : CT) (vc : Nat) (nm : Int32) (pe : Int32) (tr : Int32) (hvc : S 16 9 = nI vc) (bvc : vc ≤ 5) : MV l yX9_add cX9_add 4 { frames := 0, cells := 0, slots := 0, locals := 0 } [.ref (a 1), .int nm, .int pe, .int tr] G (stW G a S) (fun (_ : Unit) => True) (fun _ => stW G a (s_vadd S nm pe tr vc)) := by
  refine jm_v (own := RX9) (by decide) rfl (Nat.le_of_ble_eq_true rfl) (fun x hl hC hR hN => ?_)
  subst hl
  refine J_aload_n hC dX9_add_0 0 rfl rfl ?_
  refine J_get (v := .int (S 16 9)) hC wu_X9 rfl dX9_add_1 1 3 (by decide) wf_X9_21 rfl rfl ?_
  refine J_topi hvc ?_
  refine J_bipush (v := 6) hC dX9_add_4 (by decide +kernel) ?_
  refine J_ic_ltN (a := vc) (b := 6) (tgt := 10) hC dX9_add_6 (by decide) (by omega) (by omega) (fun (c_6 : vc < 6) => ?_) (fun (c_6 : 6 ≤ vc) => ?_)
  · refine J_aload_n hC dX9_add_10 0 rfl rfl ?_
    refine J_get (v := .ref (a 2)) hC wu_X9 rfl dX9_add_11 1 0 (by decide) wf_X9_9 rfl rfl ?_
    refine J_aload_n hC dX9_add_14 0 rfl rfl ?_
    refine J_get (v := .int (S 16 9)) hC wu_X9 rfl dX9_add_15 1 3 (by decide) wf_X9_21 rfl rfl ?_
    refine J_topi hvc ?_
    refine J_iload_n hC dX9_add_18 1 rfl rfl ?_
    refine J_iast (i := vc) (ws' := stW G a (us S 0 vc nm)) hC dX9_add_19 2 rfl (by omega) (by decide) rfl ?_
    refine J_aload_n hC dX9_add_20 0 rfl rfl ?_
    refine J_get (v := .ref (a 3)) hC wu_X9 rfl dX9_add_21 1 1 (by decide) wf_X9_15 rfl rfl ?_
    refine J_aload_n hC dX9_add_24 0 rfl rfl ?_
    refine J_get (v := .int (S 16 9)) hC wu_X9 rfl dX9_add_25 1 3 (by decide) wf_X9_21 rfl rfl ?_
    refine J_topi hvc ?_
    refine J_iload_n hC dX9_add_28 2 rfl rfl ?_
    refine J_iast (i := vc) (ws' := stW G a (us (us S 0 vc nm) 1 vc pe)) hC dX9_add_29 3 rfl (by omega) (by decide) rfl ?_
    refine J_aload_n hC dX9_add_30 0 rfl rfl ?_
    refine J_get (v := .ref (a 4)) hC wu_X9 rfl dX9_add_31 1 2 (by decide) wf_X9_18 rfl rfl ?_
    refine J_aload_n hC dX9_add_34 0 rfl rfl ?_
    refine J_get (v := .int (S 16 9)) hC wu_X9 rfl dX9_add_35 1 3 (by decide) wf_X9_21 rfl rfl ?_
    refine J_topi hvc ?_
    refine J_iload_n hC dX9_add_38 3 rfl rfl ?_
    refine J_iast (i := vc) (ws' := stW G a (us (us (us S 0 vc nm) 1 vc pe) 2 vc tr)) hC dX9_add_39 4 rfl (by omega) (by decide) rfl ?_
    refine J_aload_n hC dX9_add_40 0 rfl rfl ?_
    refine J_dup hC dX9_add_41 rfl ?_
    refine J_get (v := .int (S 16 9)) hC wu_X9 rfl dX9_add_42 1 3 (by decide) wf_X9_21 rfl rfl ?_
    refine J_topi hvc ?_
    refine J_iconst (v := 1) hC dX9_add_45 rfl ?_
    refine J_iadd (v := nI (vc + 1)) hC dX9_add_46 (nI_add vc 1) ?_
    refine J_put (ws' := stW G a (us (us (us (us S 0 vc nm) 1 vc pe) 2 vc tr) 16 9 (nI (vc + 1)))) hC wu_X9 rfl tyX9_ok nmX9 dX9_add_47 1 3 (by decide) wf_X9_21 rfl rfl (Nat.le_of_ble_eq_true rfl) rfl rfl rfl ?_
    refine J_vret hC hR dX9_add_50 () ?_ ?_ (by decide) (by decide)
    · trivial
    · rfl
  · exfalso; omega

set_option maxRecDepth 100000 in
set_option maxHeartbeats 4000000 in
theorem c_X9_changeTrust (l : Launch) (G : gT) (a : Nat → Nat) (S : CT) (vc : Nat) (v : Int32) (ch : Int32) (hvc : S 16 9 = nI vc) (bvc : vc ≤ 6) : MV l yX9_changeTrust cX9_changeTrust 4 { frames := 1, cells := 0, slots := 0, locals := 21 } [.ref (a 1), .int v, .int ch] G (stW G a S) (fun (_ : Unit) => True) (fun _ => stW G a (s_chg S v ch vc)) := by
  refine jm_v (own := RX9) (by decide) rfl (Nat.le_of_ble_eq_true rfl) (fun x hl hC hR hN => ?_)
  subst hl
  refine J_aload_n hC dX9_changeTrust_0 0 rfl rfl ?_
  refine J_iload_n hC dX9_changeTrust_1 1 rfl rfl ?_
  refine J_callVi hC dX9_changeTrust_2 wl_X9_29 yi_X9_has (c_X9_has _ G a S vc v (hvc) (by omega)) rfl rfl 1 9 rfl rfl ⟨Nat.le_of_ble_eq_true rfl, Nat.le_of_ble_eq_true rfl⟩ (Nat.le_of_ble_eq_true rfl) (Nat.le_of_ble_eq_true rfl) (Nat.le_of_ble_eq_true rfl) (fun r u h_2 => ?_)
  rcases h_2 with ⟨rfl, c_2⟩ | ⟨rfl, c_2⟩
  · refine J_if_ne (tgt := 9) hC dX9_changeTrust_5 (by decide) (fun _ => ?_) (fun c => absurd c (by decide))
    obtain ⟨w, hw_w, rfl⟩ := has_nat c_2 (by omega)
    refine J_aload_n hC dX9_changeTrust_9 0 rfl rfl ?_
    refine J_get (v := .ref (a 4)) hC wu_X9 rfl dX9_changeTrust_10 1 2 (by decide) wf_X9_18 rfl rfl ?_
    refine J_iload_n hC dX9_changeTrust_13 1 rfl rfl ?_
    refine J_iald (i := w) (v := S 2 w) hC dX9_changeTrust_14 4 rfl (by omega) (by decide) rfl ?_
    refine J_iload_n hC dX9_changeTrust_15 2 rfl rfl ?_
    refine J_iadd (v := (S 2 w) + ch) hC dX9_changeTrust_16 rfl ?_
    refine J_istore_n hC [(3, .int ((S 2 w) + ch)), (0, .ref (a 1)), (1, .int (nI w)), (2, .int ch)] dX9_changeTrust_17 rfl (by decide) rfl ?_
    refine J_aload_n hC dX9_changeTrust_18 1 rfl rfl ?_
    refine J_get (v := .ref (a 4)) hC wu_X9 rfl dX9_changeTrust_19 1 2 (by decide) wf_X9_18 rfl rfl ?_
    refine J_iload_n hC dX9_changeTrust_22 2 rfl rfl ?_
    refine J_iload_n hC dX9_changeTrust_23 0 rfl rfl ?_
    refine J_if_ge (tgt := 31) hC dX9_changeTrust_24 (by decide) (fun (c_24 : 0 ≤ ((S 2 w) + ch)) => ?_) (fun (c_24 : ¬ 0 ≤ ((S 2 w) + ch)) => ?_)
    · refine J_iload_n hC dX9_changeTrust_31 0 rfl rfl ?_
      refine J_bipush (v := 100) hC dX9_changeTrust_32 (by decide +kernel) ?_
      refine J_ic_le (tgt := 42) hC dX9_changeTrust_34 (by decide) (fun (c_34 : ((S 2 w) + ch) ≤ 100) => ?_) (fun (c_34 : ¬ ((S 2 w) + ch) ≤ 100) => ?_)
      · refine J_iload_n hC dX9_changeTrust_42 0 rfl rfl ?_
        refine J_iast (i := w) (ws' := stW G a (us S 2 w ((S 2 w) + ch))) hC dX9_changeTrust_43 4 rfl (by omega) (by decide) rfl ?_
        refine J_vret hC hR dX9_changeTrust_44 () ?_ ?_ (by decide) (by decide)
        · trivial
        · rw [s_chg, if_pos c_2, nI_clamp (by omega), clampT, if_pos c_24, if_pos c_34]
      · refine J_bipush (v := 100) hC dX9_changeTrust_37 (by decide +kernel) ?_
        refine J_goto (tgt := 43) hC dX9_changeTrust_39 (by decide) ?_
        refine J_iast (i := w) (ws' := stW G a (us S 2 w 100)) hC dX9_changeTrust_43 4 rfl (by omega) (by decide) rfl ?_
        refine J_vret hC hR dX9_changeTrust_44 () ?_ ?_ (by decide) (by decide)
        · trivial
        · rw [s_chg, if_pos c_2, nI_clamp (by omega), clampT, if_pos c_24, if_neg c_34]
    · refine J_iconst (v := 0) hC dX9_changeTrust_27 rfl ?_
      refine J_goto (tgt := 43) hC dX9_changeTrust_28 (by decide) ?_
      refine J_iast (i := w) (ws' := stW G a (us S 2 w 0)) hC dX9_changeTrust_43 4 rfl (by omega) (by decide) rfl ?_
      refine J_vret hC hR dX9_changeTrust_44 () ?_ ?_ (by decide) (by decide)
      · trivial
      · rw [s_chg, if_pos c_2, nI_clamp (by omega), clampT, if_neg c_24]
  · refine J_if_ne (tgt := 9) hC dX9_changeTrust_5 (by decide) (fun c => absurd (by decide) c) (fun _ => ?_)
    refine J_vret hC hR dX9_changeTrust_8 () ?_ ?_ (by decide) (by decide)
    · trivial
    · rw [s_chg, if_neg c_2]

set_option maxRecDepth 100000 in
set_option maxHeartbeats 4000000 in
theorem c_X9_wish (l : Launch) (G : gT) (a : Nat → Nat) (S : CT) (vc : Nat) (v : Int32) (so : Int32) (hvc : S 16 9 = nI vc) (bvc : vc ≤ 6) : MI l yX9_wish cX9_wish 3 (some .int) { frames := 1, cells := 0, slots := 0, locals := 21 } [.ref (a 1), .int v, .int so] G (stW G a S) (fun r (_ : Unit) => r = s_wish S v so vc) (fun _ => stW G a S) := by
  refine jm_i (own := RX9) (by decide) rfl (Nat.le_of_ble_eq_true rfl) (fun x hl hC hR hN => ?_)
  subst hl
  refine J_aload_n hC dX9_wish_0 0 rfl rfl ?_
  refine J_iload_n hC dX9_wish_1 1 rfl rfl ?_
  refine J_callVi hC dX9_wish_2 wl_X9_29 yi_X9_has (c_X9_has _ G a S vc v (hvc) (by omega)) rfl rfl 1 9 rfl rfl ⟨Nat.le_of_ble_eq_true rfl, Nat.le_of_ble_eq_true rfl⟩ (Nat.le_of_ble_eq_true rfl) (Nat.le_of_ble_eq_true rfl) (Nat.le_of_ble_eq_true rfl) (fun r u h_2 => ?_)
  rcases h_2 with ⟨rfl, c_2⟩ | ⟨rfl, c_2⟩
  · refine J_if_eq (tgt := 18) hC dX9_wish_5 (by decide) (fun c => absurd c (by decide)) (fun _ => ?_)
    obtain ⟨w, hw_w, rfl⟩ := has_nat c_2 (by omega)
    refine J_aload_n hC dX9_wish_8 0 rfl rfl ?_
    refine J_get (v := .ref (a 3)) hC wu_X9 rfl dX9_wish_9 1 1 (by decide) wf_X9_15 rfl rfl ?_
    refine J_iload_n hC dX9_wish_12 1 rfl rfl ?_
    refine J_iald (i := w) (v := S 1 w) hC dX9_wish_13 3 rfl (by omega) (by decide) rfl ?_
    refine J_iload_n hC dX9_wish_14 2 rfl rfl ?_
    refine J_ic_gt (tgt := 20) hC dX9_wish_15 (by decide) (fun (c_15 : so < (S 1 w)) => ?_) (fun (c_15 : ¬ so < (S 1 w)) => ?_)
    · refine J_aload_n hC dX9_wish_20 0 rfl rfl ?_
      refine J_get (v := .ref (a 3)) hC wu_X9 rfl dX9_wish_21 1 1 (by decide) wf_X9_15 rfl rfl ?_
      refine J_iload_n hC dX9_wish_24 1 rfl rfl ?_
      refine J_iald (i := w) (v := S 1 w) hC dX9_wish_25 3 rfl (by omega) (by decide) rfl ?_
      refine J_iload_n hC dX9_wish_26 2 rfl rfl ?_
      refine J_isub (v := (S 1 w) - so) hC dX9_wish_27 rfl ?_
      refine J_aload_n hC dX9_wish_28 0 rfl rfl ?_
      refine J_get (v := .ref (a 4)) hC wu_X9 rfl dX9_wish_29 1 2 (by decide) wf_X9_18 rfl rfl ?_
      refine J_iload_n hC dX9_wish_32 1 rfl rfl ?_
      refine J_iald (i := w) (v := S 2 w) hC dX9_wish_33 4 rfl (by omega) (by decide) rfl ?_
      refine J_imul (v := ((S 1 w) - so) * (S 2 w)) hC dX9_wish_34 rfl ?_
      refine J_bipush (v := 100) hC dX9_wish_35 (by decide +kernel) ?_
      refine J_idiv (v := (((S 1 w) - so) * (S 2 w)) / 100) hC dX9_wish_37 (by decide) rfl ?_
      refine J_iret hC hR dX9_wish_38 rfl () ?_ ?_ (by decide) (by decide)
      · rw [s_wish, if_pos c_2, nI_clamp (by omega), if_pos c_15]
      · rfl
    · refine J_iconst (v := 0) hC dX9_wish_18 rfl ?_
      refine J_iret hC hR dX9_wish_19 rfl () ?_ ?_ (by decide) (by decide)
      · rw [s_wish, if_pos c_2, nI_clamp (by omega), if_neg c_15]
      · rfl
  · refine J_if_eq (tgt := 18) hC dX9_wish_5 (by decide) (fun _ => ?_) (fun c => absurd (by decide) c)
    refine J_iconst (v := 0) hC dX9_wish_18 rfl ?_
    refine J_iret hC hR dX9_wish_19 rfl () ?_ ?_ (by decide) (by decide)
    · rw [s_wish, if_neg c_2]
    · rfl

set_option maxRecDepth 100000 in
set_option maxHeartbeats 4000000 in
theorem c_X2_numberOf (l : Launch) (G : gT) (a : Nat → Nat) (S : CT) (fc : Nat) (nm : Int32) (hfc : S 16 10 = nI fc) (bfc : fc ≤ 6) : MI l yX2_numberOf cX2_numberOf 2 (some .int) { frames := 1, cells := 0, slots := 0, locals := 23 } [.ref (a 5), .int nm] G (stW G a S) (fun r (_ : Unit) => r = s_num (S 3) nm fc) (fun _ => stW G a S) := by
  refine jm_i (own := RX2) (by decide) rfl (Nat.le_of_ble_eq_true rfl) (fun x hl hC hR hN => ?_)
  subst hl
  refine J_aload_n hC dX2_numberOf_0 0 rfl rfl ?_
  refine J_get (v := .ref (a 6)) hC wu_X2 rfl dX2_numberOf_1 5 0 (by decide) wf_X2_9 rfl rfl ?_
  refine J_aload_n hC dX2_numberOf_4 0 rfl rfl ?_
  refine J_get (v := .int (S 16 10)) hC wu_X2 rfl dX2_numberOf_5 5 5 (by decide) wf_X2_27 rfl rfl ?_
  refine J_topi hfc ?_
  refine J_iload_n hC dX2_numberOf_8 1 rfl rfl ?_
  refine J_callSNi hC dX2_numberOf_9 wln_X2_31 yi_X10_placeIn (c_X10_placeIn_f _ G a S fc nm (by omega)) rfl rfl ⟨Nat.le_of_ble_eq_true rfl, Nat.le_of_ble_eq_true rfl⟩ (Nat.le_of_ble_eq_true rfl) (Nat.le_of_ble_eq_true rfl) (Nat.le_of_ble_eq_true rfl) (fun r u h_9 => ?_)
  subst h_9
  refine J_iret hC hR dX2_numberOf_12 rfl () ?_ ?_ (by decide) (by decide)
  · rfl
  · rfl

set_option maxRecDepth 100000 in
set_option maxHeartbeats 4000000 in
theorem c_X2_add (l : Launch) (G : gT) (a : Nat → Nat) (S : CT) (fc : Nat) (nm : Int32) (vi : Int32) (pe : Int32) (st_ : Int32) (pr : Int32) (hfc : S 16 10 = nI fc) (bfc : fc ≤ 5) : MV l yX2_add cX2_add 6 { frames := 0, cells := 0, slots := 0, locals := 0 } [.ref (a 5), .int nm, .int vi, .int pe, .int st_, .int pr] G (stW G a S) (fun (_ : Unit) => True) (fun _ => stW G a (s_fadd S nm vi pe st_ pr fc)) := by
  refine jm_v (own := RX2) (by decide) rfl (Nat.le_of_ble_eq_true rfl) (fun x hl hC hR hN => ?_)
  subst hl
  refine J_aload_n hC dX2_add_0 0 rfl rfl ?_
  refine J_get (v := .int (S 16 10)) hC wu_X2 rfl dX2_add_1 5 5 (by decide) wf_X2_27 rfl rfl ?_
  refine J_topi hfc ?_
  refine J_bipush (v := 6) hC dX2_add_4 (by decide +kernel) ?_
  refine J_ic_ltN (a := fc) (b := 6) (tgt := 10) hC dX2_add_6 (by decide) (by omega) (by omega) (fun (c_6 : fc < 6) => ?_) (fun (c_6 : 6 ≤ fc) => ?_)
  · refine J_aload_n hC dX2_add_10 0 rfl rfl ?_
    refine J_get (v := .ref (a 6)) hC wu_X2 rfl dX2_add_11 5 0 (by decide) wf_X2_9 rfl rfl ?_
    refine J_aload_n hC dX2_add_14 0 rfl rfl ?_
    refine J_get (v := .int (S 16 10)) hC wu_X2 rfl dX2_add_15 5 5 (by decide) wf_X2_27 rfl rfl ?_
    refine J_topi hfc ?_
    refine J_iload_n hC dX2_add_18 1 rfl rfl ?_
    refine J_iast (i := fc) (ws' := stW G a (us S 3 fc nm)) hC dX2_add_19 6 rfl (by omega) (by decide) rfl ?_
    refine J_aload_n hC dX2_add_20 0 rfl rfl ?_
    refine J_get (v := .ref (a 7)) hC wu_X2 rfl dX2_add_21 5 1 (by decide) wf_X2_15 rfl rfl ?_
    refine J_aload_n hC dX2_add_24 0 rfl rfl ?_
    refine J_get (v := .int (S 16 10)) hC wu_X2 rfl dX2_add_25 5 5 (by decide) wf_X2_27 rfl rfl ?_
    refine J_topi hfc ?_
    refine J_iload_n hC dX2_add_28 2 rfl rfl ?_
    refine J_iast (i := fc) (ws' := stW G a (us (us S 3 fc nm) 4 fc vi)) hC dX2_add_29 7 rfl (by omega) (by decide) rfl ?_
    refine J_aload_n hC dX2_add_30 0 rfl rfl ?_
    refine J_get (v := .ref (a 8)) hC wu_X2 rfl dX2_add_31 5 2 (by decide) wf_X2_18 rfl rfl ?_
    refine J_aload_n hC dX2_add_34 0 rfl rfl ?_
    refine J_get (v := .int (S 16 10)) hC wu_X2 rfl dX2_add_35 5 5 (by decide) wf_X2_27 rfl rfl ?_
    refine J_topi hfc ?_
    refine J_iload_n hC dX2_add_38 3 rfl rfl ?_
    refine J_iast (i := fc) (ws' := stW G a (us (us (us S 3 fc nm) 4 fc vi) 5 fc pe)) hC dX2_add_39 8 rfl (by omega) (by decide) rfl ?_
    refine J_aload_n hC dX2_add_40 0 rfl rfl ?_
    refine J_get (v := .ref (a 9)) hC wu_X2 rfl dX2_add_41 5 3 (by decide) wf_X2_21 rfl rfl ?_
    refine J_aload_n hC dX2_add_44 0 rfl rfl ?_
    refine J_get (v := .int (S 16 10)) hC wu_X2 rfl dX2_add_45 5 5 (by decide) wf_X2_27 rfl rfl ?_
    refine J_topi hfc ?_
    refine J_iload hC dX2_add_48 4 rfl ?_
    refine J_iast (i := fc) (ws' := stW G a (us (us (us (us S 3 fc nm) 4 fc vi) 5 fc pe) 6 fc st_)) hC dX2_add_50 9 rfl (by omega) (by decide) rfl ?_
    refine J_aload_n hC dX2_add_51 0 rfl rfl ?_
    refine J_get (v := .ref (a 10)) hC wu_X2 rfl dX2_add_52 5 4 (by decide) wf_X2_24 rfl rfl ?_
    refine J_aload_n hC dX2_add_55 0 rfl rfl ?_
    refine J_get (v := .int (S 16 10)) hC wu_X2 rfl dX2_add_56 5 5 (by decide) wf_X2_27 rfl rfl ?_
    refine J_topi hfc ?_
    refine J_iload hC dX2_add_59 5 rfl ?_
    refine J_iast (i := fc) (ws' := stW G a (us (us (us (us (us S 3 fc nm) 4 fc vi) 5 fc pe) 6 fc st_) 7 fc pr)) hC dX2_add_61 10 rfl (by omega) (by decide) rfl ?_
    refine J_aload_n hC dX2_add_62 0 rfl rfl ?_
    refine J_dup hC dX2_add_63 rfl ?_
    refine J_get (v := .int (S 16 10)) hC wu_X2 rfl dX2_add_64 5 5 (by decide) wf_X2_27 rfl rfl ?_
    refine J_topi hfc ?_
    refine J_iconst (v := 1) hC dX2_add_67 rfl ?_
    refine J_iadd (v := nI (fc + 1)) hC dX2_add_68 (nI_add fc 1) ?_
    refine J_put (ws' := stW G a (us (us (us (us (us (us S 3 fc nm) 4 fc vi) 5 fc pe) 6 fc st_) 7 fc pr) 16 10 (nI (fc + 1)))) hC wu_X2 rfl tyX2_ok nmX2 dX2_add_69 5 5 (by decide) wf_X2_27 rfl rfl (Nat.le_of_ble_eq_true rfl) rfl rfl rfl ?_
    refine J_vret hC hR dX2_add_72 () ?_ ?_ (by decide) (by decide)
    · trivial
    · rfl
  · exfalso; omega

set_option maxRecDepth 100000 in
set_option maxHeartbeats 4000000 in
theorem c_X2_isHeld (l : Launch) (G : gT) (a : Nat → Nat) (S : CT) (fr : Nat) (d : Int32) (hf : fr < 6) : MI l yX2_isHeld cX2_isHeld 4 (some .boolean) { frames := 0, cells := 0, slots := 0, locals := 0 } [.ref (a 5), .int (nI fr), .int d] G (stW G a S) (fun r (_ : Unit) => (r = 1 ∧ s_isHeld S fr d) ∨ (r = 0 ∧ ¬ (s_isHeld S fr d))) (fun _ => stW G a S) := by
  refine jm_i (own := RX2) (by decide) rfl (Nat.le_of_ble_eq_true rfl) (fun x hl hC hR hN => ?_)
  subst hl
  refine J_aload_n hC dX2_isHeld_0 0 rfl rfl ?_
  refine J_get (v := .ref (a 8)) hC wu_X2 rfl dX2_isHeld_1 5 2 (by decide) wf_X2_18 rfl rfl ?_
  refine J_iload_n hC dX2_isHeld_4 1 rfl rfl ?_
  refine J_iald (i := fr) (v := S 5 fr) hC dX2_isHeld_5 8 rfl (by omega) (by decide) rfl ?_
  refine J_istore_n hC [(3, .int (S 5 fr)), (0, .ref (a 5)), (1, .int (nI fr)), (2, .int d)] dX2_isHeld_6 rfl (by decide) rfl ?_
  refine J_iload_n hC dX2_isHeld_7 0 rfl rfl ?_
  refine J_iconst (v := 1) hC dX2_isHeld_8 rfl ?_
  refine J_ic_lt (tgt := 24) hC dX2_isHeld_9 (by decide) (fun (c_9 : (S 5 fr) < 1) => ?_) (fun (c_9 : ¬ (S 5 fr) < 1) => ?_)
  · refine J_iconst (v := 0) hC dX2_isHeld_24 rfl ?_
    refine J_iret hC hR dX2_isHeld_25 rfl () ?_ ?_ (by decide) (by decide)
    · exact Or.inr ⟨rfl, fun h => h.1 c_9⟩
    · rfl
  · refine J_iload_n hC dX2_isHeld_12 3 rfl rfl ?_
    refine J_iload_n hC dX2_isHeld_13 2 rfl rfl ?_
    refine J_iadd (v := d + (nI fr)) hC dX2_isHeld_14 rfl ?_
    refine J_iload_n hC dX2_isHeld_15 0 rfl rfl ?_
    refine J_irem (v := imod (d + (nI fr)) (S 5 fr)) hC dX2_isHeld_16 (ne0_of_lt1 c_9) rfl ?_
    refine J_if_ne (tgt := 24) hC dX2_isHeld_17 (by decide) (fun (c_17 : ¬ (imod (d + (nI fr)) (S 5 fr)) = 0) => ?_) (fun (c_17 : (imod (d + (nI fr)) (S 5 fr)) = 0) => ?_)
    · refine J_iconst (v := 0) hC dX2_isHeld_24 rfl ?_
      refine J_iret hC hR dX2_isHeld_25 rfl () ?_ ?_ (by decide) (by decide)
      · exact Or.inr ⟨rfl, fun h => c_17 h.2⟩
      · rfl
    · refine J_iconst (v := 1) hC dX2_isHeld_20 rfl ?_
      refine J_goto (tgt := 25) hC dX2_isHeld_21 (by decide) ?_
      refine J_iret hC hR dX2_isHeld_25 rfl () ?_ ?_ (by decide) (by decide)
      · exact Or.inl ⟨rfl, c_9, c_17⟩
      · rfl

set_option maxRecDepth 100000 in
set_option maxHeartbeats 4000000 in
theorem c_X7_sumOfOdds (l : Launch) (G : gT) (a : Nat → Nat) (S : CT) : MI l yX7_sumOfOdds cX7_sumOfOdds 1 (some .int) { frames := 0, cells := 0, slots := 0, locals := 0 } [.ref (a 11)] G (stW G a S) (fun r (_ : Unit) => r = s_sumO S) (fun _ => stW G a S) := by
  refine jm_i (own := RX7) (by decide) rfl (Nat.le_of_ble_eq_true rfl) (fun x hl hC hR hN => ?_)
  subst hl
  refine J_aload_n hC dX7_sumOfOdds_0 0 rfl rfl ?_
  refine J_get (v := .ref (a 12)) hC wu_X7 rfl dX7_sumOfOdds_1 11 0 (by decide) wf_X7_9 rfl rfl ?_
  refine J_iconst (v := 0) hC dX7_sumOfOdds_4 rfl ?_
  refine J_iald (i := 0) (v := S 8 0) hC dX7_sumOfOdds_5 12 rfl (by omega) (by decide) rfl ?_
  refine J_aload_n hC dX7_sumOfOdds_6 0 rfl rfl ?_
  refine J_get (v := .ref (a 12)) hC wu_X7 rfl dX7_sumOfOdds_7 11 0 (by decide) wf_X7_9 rfl rfl ?_
  refine J_iconst (v := 1) hC dX7_sumOfOdds_10 rfl ?_
  refine J_iald (i := 1) (v := S 8 1) hC dX7_sumOfOdds_11 12 rfl (by omega) (by decide) rfl ?_
  refine J_iadd (v := (S 8 0) + (S 8 1)) hC dX7_sumOfOdds_12 rfl ?_
  refine J_aload_n hC dX7_sumOfOdds_13 0 rfl rfl ?_
  refine J_get (v := .ref (a 12)) hC wu_X7 rfl dX7_sumOfOdds_14 11 0 (by decide) wf_X7_9 rfl rfl ?_
  refine J_iconst (v := 2) hC dX7_sumOfOdds_17 rfl ?_
  refine J_iald (i := 2) (v := S 8 2) hC dX7_sumOfOdds_18 12 rfl (by omega) (by decide) rfl ?_
  refine J_iadd (v := ((S 8 0) + (S 8 1)) + (S 8 2)) hC dX7_sumOfOdds_19 rfl ?_
  refine J_iret hC hR dX7_sumOfOdds_20 rfl () ?_ ?_ (by decide) (by decide)
  · rfl
  · rfl

set_option maxRecDepth 100000 in
set_option maxHeartbeats 4000000 in
theorem c_X7_seedAfter (l : Launch) (G : gT) (ws0 : va_W) (f : Int32) : MI l yX7_seedAfter cX7_seedAfter 1 (some .int) { frames := 0, cells := 0, slots := 0, locals := 0 } [.int f] G (ws0) (fun r (_ : Unit) => r = s_seed f) (fun _ => ws0) := by
  refine jm_i (own := RX7) (by decide) rfl (Nat.le_of_ble_eq_true rfl) (fun x hl hC hR hN => ?_)
  subst hl
  refine J_bipush (v := 29) hC dX7_seedAfter_0 (by decide +kernel) ?_
  refine J_iload_n hC dX7_seedAfter_2 0 rfl rfl ?_
  refine J_imul (v := 29 * f) hC dX7_seedAfter_3 rfl ?_
  refine J_bipush (v := 11) hC dX7_seedAfter_4 (by decide +kernel) ?_
  refine J_iadd (v := (29 * f) + 11) hC dX7_seedAfter_6 rfl ?_
  refine J_sipush (v := 1024) hC dX7_seedAfter_7 (by decide +kernel) ?_
  refine J_irem (v := imod ((29 * f) + 11) 1024) hC dX7_seedAfter_10 (by decide) rfl ?_
  refine J_iret hC hR dX7_seedAfter_11 rfl () ?_ ?_ (by decide) (by decide)
  · rfl
  · rfl

set_option maxRecDepth 100000 in
set_option maxHeartbeats 4000000 in
theorem c_X7_weatherFor (l : Launch) (G : gT) (a : Nat → Nat) (S : CT) (sd : Int32) : MI l yX7_weatherFor cX7_weatherFor 4 (some .int) { frames := 1, cells := 0, slots := 0, locals := 20 } [.ref (a 11), .int sd] G (stW G a S) (fun r (_ : Unit) => r = nI (s_wf S sd)) (fun _ => stW G a S) := by
  refine jm_i (own := RX7) (by decide) rfl (Nat.le_of_ble_eq_true rfl) (fun x hl hC hR hN => ?_)
  subst hl
  refine J_aload_n hC dX7_weatherFor_0 0 rfl rfl ?_
  refine J_callVi hC dX7_weatherFor_1 wl_X7_22 yi_X7_sumOfOdds (c_X7_sumOfOdds _ G a S) rfl rfl 11 7 rfl rfl ⟨Nat.le_of_ble_eq_true rfl, Nat.le_of_ble_eq_true rfl⟩ (Nat.le_of_ble_eq_true rfl) (Nat.le_of_ble_eq_true rfl) (Nat.le_of_ble_eq_true rfl) (fun r u h_1 => ?_)
  subst h_1
  refine J_istore_n hC [(2, .int (s_sumO S)), (0, .ref (a 11)), (1, .int sd)] dX7_weatherFor_4 rfl (by decide) rfl ?_
  refine J_iload_n hC dX7_weatherFor_5 0 rfl rfl ?_
  refine J_iconst (v := 1) hC dX7_weatherFor_6 rfl ?_
  refine J_ic_ge (tgt := 14) hC dX7_weatherFor_7 (by decide) (fun (c_7 : 1 ≤ (s_sumO S)) => ?_) (fun (c_7 : ¬ 1 ≤ (s_sumO S)) => ?_)
  · refine J_iload_n hC dX7_weatherFor_14 2 rfl rfl ?_
    refine J_iload_n hC dX7_weatherFor_15 0 rfl rfl ?_
    refine J_irem (v := imod sd (s_sumO S)) hC dX7_weatherFor_16 (ne0_of_ge1 c_7) rfl ?_
    refine J_istore_n hC [(3, .int (imod sd (s_sumO S))), (2, .int (s_sumO S)), (0, .ref (a 11)), (1, .int sd)] dX7_weatherFor_17 rfl (by decide) rfl ?_
    refine J_iload_n hC dX7_weatherFor_18 0 rfl rfl ?_
    refine J_aload_n hC dX7_weatherFor_19 2 rfl rfl ?_
    refine J_get (v := .ref (a 12)) hC wu_X7 rfl dX7_weatherFor_20 11 0 (by decide) wf_X7_9 rfl rfl ?_
    refine J_iconst (v := 0) hC dX7_weatherFor_23 rfl ?_
    refine J_iald (i := 0) (v := S 8 0) hC dX7_weatherFor_24 12 rfl (by omega) (by decide) rfl ?_
    refine J_ic_ge (tgt := 30) hC dX7_weatherFor_25 (by decide) (fun (c_25 : (S 8 0) ≤ (imod sd (s_sumO S))) => ?_) (fun (c_25 : ¬ (S 8 0) ≤ (imod sd (s_sumO S))) => ?_)
    · refine J_iload_n hC dX7_weatherFor_30 0 rfl rfl ?_
      refine J_aload_n hC dX7_weatherFor_31 2 rfl rfl ?_
      refine J_get (v := .ref (a 12)) hC wu_X7 rfl dX7_weatherFor_32 11 0 (by decide) wf_X7_9 rfl rfl ?_
      refine J_iconst (v := 0) hC dX7_weatherFor_35 rfl ?_
      refine J_iald (i := 0) (v := S 8 0) hC dX7_weatherFor_36 12 rfl (by omega) (by decide) rfl ?_
      refine J_aload_n hC dX7_weatherFor_37 2 rfl rfl ?_
      refine J_get (v := .ref (a 12)) hC wu_X7 rfl dX7_weatherFor_38 11 0 (by decide) wf_X7_9 rfl rfl ?_
      refine J_iconst (v := 1) hC dX7_weatherFor_41 rfl ?_
      refine J_iald (i := 1) (v := S 8 1) hC dX7_weatherFor_42 12 rfl (by omega) (by decide) rfl ?_
      refine J_iadd (v := (S 8 0) + (S 8 1)) hC dX7_weatherFor_43 rfl ?_
      refine J_ic_ge (tgt := 51) hC dX7_weatherFor_44 (by decide) (fun (c_44 : ((S 8 0) + (S 8 1)) ≤ (imod sd (s_sumO S))) => ?_) (fun (c_44 : ¬ ((S 8 0) + (S 8 1)) ≤ (imod sd (s_sumO S))) => ?_)
      · refine J_iconst (v := 2) hC dX7_weatherFor_51 rfl ?_
        refine J_iret hC hR dX7_weatherFor_52 rfl () ?_ ?_ (by decide) (by decide)
        · rw [s_wf, s_wfv, if_pos c_7, if_pos c_25, if_pos c_44]; rfl
        · rfl
      · refine J_iconst (v := 1) hC dX7_weatherFor_47 rfl ?_
        refine J_goto (tgt := 52) hC dX7_weatherFor_48 (by decide) ?_
        refine J_iret hC hR dX7_weatherFor_52 rfl () ?_ ?_ (by decide) (by decide)
        · rw [s_wf, s_wfv, if_pos c_7, if_pos c_25, if_neg c_44]; rfl
        · rfl
    · refine J_iconst (v := 0) hC dX7_weatherFor_28 rfl ?_
      refine J_iret hC hR dX7_weatherFor_29 rfl () ?_ ?_ (by decide) (by decide)
      · rw [s_wf, s_wfv, if_pos c_7, if_neg c_25]; rfl
      · rfl
  · refine J_iconst (v := 0) hC dX7_weatherFor_10 rfl ?_
    refine J_goto (tgt := 17) hC dX7_weatherFor_11 (by decide) ?_
    refine J_istore_n hC [(3, .int 0), (2, .int (s_sumO S)), (0, .ref (a 11)), (1, .int sd)] dX7_weatherFor_17 rfl (by decide) rfl ?_
    refine J_iload_n hC dX7_weatherFor_18 0 rfl rfl ?_
    refine J_aload_n hC dX7_weatherFor_19 2 rfl rfl ?_
    refine J_get (v := .ref (a 12)) hC wu_X7 rfl dX7_weatherFor_20 11 0 (by decide) wf_X7_9 rfl rfl ?_
    refine J_iconst (v := 0) hC dX7_weatherFor_23 rfl ?_
    refine J_iald (i := 0) (v := S 8 0) hC dX7_weatherFor_24 12 rfl (by omega) (by decide) rfl ?_
    refine J_ic_ge (tgt := 30) hC dX7_weatherFor_25 (by decide) (fun (c_25 : (S 8 0) ≤ 0) => ?_) (fun (c_25 : ¬ (S 8 0) ≤ 0) => ?_)
    · refine J_iload_n hC dX7_weatherFor_30 0 rfl rfl ?_
      refine J_aload_n hC dX7_weatherFor_31 2 rfl rfl ?_
      refine J_get (v := .ref (a 12)) hC wu_X7 rfl dX7_weatherFor_32 11 0 (by decide) wf_X7_9 rfl rfl ?_
      refine J_iconst (v := 0) hC dX7_weatherFor_35 rfl ?_
      refine J_iald (i := 0) (v := S 8 0) hC dX7_weatherFor_36 12 rfl (by omega) (by decide) rfl ?_
      refine J_aload_n hC dX7_weatherFor_37 2 rfl rfl ?_
      refine J_get (v := .ref (a 12)) hC wu_X7 rfl dX7_weatherFor_38 11 0 (by decide) wf_X7_9 rfl rfl ?_
      refine J_iconst (v := 1) hC dX7_weatherFor_41 rfl ?_
      refine J_iald (i := 1) (v := S 8 1) hC dX7_weatherFor_42 12 rfl (by omega) (by decide) rfl ?_
      refine J_iadd (v := (S 8 0) + (S 8 1)) hC dX7_weatherFor_43 rfl ?_
      refine J_ic_ge (tgt := 51) hC dX7_weatherFor_44 (by decide) (fun (c_44 : ((S 8 0) + (S 8 1)) ≤ 0) => ?_) (fun (c_44 : ¬ ((S 8 0) + (S 8 1)) ≤ 0) => ?_)
      · refine J_iconst (v := 2) hC dX7_weatherFor_51 rfl ?_
        refine J_iret hC hR dX7_weatherFor_52 rfl () ?_ ?_ (by decide) (by decide)
        · rw [s_wf, s_wfv, if_neg c_7, if_pos c_25, if_pos c_44]; rfl
        · rfl
      · refine J_iconst (v := 1) hC dX7_weatherFor_47 rfl ?_
        refine J_goto (tgt := 52) hC dX7_weatherFor_48 (by decide) ?_
        refine J_iret hC hR dX7_weatherFor_52 rfl () ?_ ?_ (by decide) (by decide)
        · rw [s_wf, s_wfv, if_neg c_7, if_pos c_25, if_neg c_44]; rfl
        · rfl
    · refine J_iconst (v := 0) hC dX7_weatherFor_28 rfl ?_
      refine J_iret hC hR dX7_weatherFor_29 rfl () ?_ ?_ (by decide) (by decide)
      · rw [s_wf, s_wfv, if_neg c_7, if_neg c_25]; rfl
      · rfl

set_option maxRecDepth 100000 in
set_option maxHeartbeats 4000000 in
theorem c_X7_draw (l : Launch) (G : gT) (a : Nat → Nat) (S : CT) : MI l yX7_draw cX7_draw 2 (some .int) { frames := 2, cells := 0, slots := 0, locals := 43 } [.ref (a 11)] G (stW G a S) (fun r (_ : Unit) => r = nI (s_drawW S)) (fun _ => stW G a (s_draw S)) := by
  refine jm_i (own := RX7) (by decide) rfl (Nat.le_of_ble_eq_true rfl) (fun x hl hC hR hN => ?_)
  subst hl
  refine J_aload_n hC dX7_draw_0 0 rfl rfl ?_
  refine J_aload_n hC dX7_draw_1 0 rfl rfl ?_
  refine J_get (v := .int (S 16 11)) hC wu_X7 rfl dX7_draw_2 11 2 (by decide) wf_X7_18 rfl rfl ?_
  refine J_callSi hC dX7_draw_5 wl_X7_26 wi_X7 yi_X7_seedAfter (c_X7_seedAfter _ G (stW G a S) (S 16 11)) rfl rfl ⟨Nat.le_of_ble_eq_true rfl, Nat.le_of_ble_eq_true rfl⟩ (Nat.le_of_ble_eq_true rfl) (Nat.le_of_ble_eq_true rfl) (Nat.le_of_ble_eq_true rfl) (fun r u h_5 => ?_)
  subst h_5
  refine J_put (ws' := stW G a (us S 16 11 (s_seed (S 16 11)))) hC wu_X7 rfl tyX7_ok nmX7 dX7_draw_8 11 2 (by decide) wf_X7_18 rfl rfl (Nat.le_of_ble_eq_true rfl) rfl rfl rfl ?_
  refine J_aload_n hC dX7_draw_11 0 rfl rfl ?_
  refine J_aload_n hC dX7_draw_12 0 rfl rfl ?_
  refine J_get (v := .int (s_seed (S 16 11))) hC wu_X7 rfl dX7_draw_13 11 2 (by decide) wf_X7_18 rfl rfl ?_
  refine J_callVi hC dX7_draw_16 wl_X7_30 yi_X7_weatherFor (c_X7_weatherFor _ G a (us S 16 11 (s_seed (S 16 11))) (s_seed (S 16 11))) rfl rfl 11 7 rfl rfl ⟨Nat.le_of_ble_eq_true rfl, Nat.le_of_ble_eq_true rfl⟩ (Nat.le_of_ble_eq_true rfl) (Nat.le_of_ble_eq_true rfl) (Nat.le_of_ble_eq_true rfl) (fun r u h_16 => ?_)
  subst h_16
  have hdw := s_drawW_lt S
  refine J_topi (w := nI (s_drawW S)) rfl ?_
  refine J_istore_n hC [(1, .int (nI (s_drawW S))), (0, .ref (a 11))] dX7_draw_19 rfl (by decide) rfl ?_
  refine J_aload_n hC dX7_draw_20 1 rfl rfl ?_
  refine J_get (v := .ref (a 13)) hC wu_X7 rfl dX7_draw_21 11 1 (by decide) wf_X7_15 rfl rfl ?_
  refine J_iload_n hC dX7_draw_24 0 rfl rfl ?_
  refine J_dup2 hC dX7_draw_25 rfl rfl ?_
  refine J_iald (i := s_drawW S) (v := S 9 (s_drawW S)) hC dX7_draw_26 13 rfl (by omega) (by decide) rfl ?_
  refine J_iconst (v := 1) hC dX7_draw_27 rfl ?_
  refine J_iadd (v := (S 9 (s_drawW S)) + 1) hC dX7_draw_28 rfl ?_
  refine J_iast (i := s_drawW S) (ws' := stW G a (us (us S 16 11 (s_seed (S 16 11))) 9 (s_drawW S) ((S 9 (s_drawW S)) + 1))) hC dX7_draw_29 13 rfl (by omega) (by decide) rfl ?_
  refine J_iload_n hC dX7_draw_30 0 rfl rfl ?_
  refine J_iret hC hR dX7_draw_31 rfl () ?_ ?_ (by decide) (by decide)
  · rfl
  · rfl

set_option maxRecDepth 100000 in
set_option maxHeartbeats 4000000 in
theorem c_X7_firstGreatest_o (l : Launch) (G : gT) (a : Nat → Nat) (S : CT) : MI l yX7_firstGreatest cX7_firstGreatest 3 (some .int) { frames := 0, cells := 0, slots := 0, locals := 0 } [.ref (a 12)] G (stW G a S) (fun r (_ : Unit) => r = nI (s_fg (S 8))) (fun _ => stW G a S) := by
  refine jm_i (own := RX7) (by decide) rfl (Nat.le_of_ble_eq_true rfl) (fun x hl hC hR hN => ?_)
  subst hl
  refine J_iconst (v := 0) hC dX7_firstGreatest_0 rfl ?_
  refine J_istore_n hC [(1, .int 0), (0, .ref (a 12))] dX7_firstGreatest_1 rfl (by decide) rfl ?_
  refine J_iconst (v := 1) hC dX7_firstGreatest_2 rfl ?_
  refine J_istore_n hC [(2, .int 1), (1, .int 0), (0, .ref (a 12))] dX7_firstGreatest_3 rfl (by decide) rfl ?_
  refine J_iload_n hC dX7_firstGreatest_4 0 rfl rfl ?_
  refine J_iconst (v := 2) hC dX7_firstGreatest_5 rfl ?_
  refine J_ic_gt (tgt := 26) hC dX7_firstGreatest_6 (by decide) (fun c => absurd c (by decide)) (fun _ => ?_)
  refine J_aload_n hC dX7_firstGreatest_9 2 rfl rfl ?_
  refine J_iload_n hC dX7_firstGreatest_10 0 rfl rfl ?_
  refine J_iald (i := 1) (v := S 8 1) hC dX7_firstGreatest_11 12 rfl (by omega) (by decide) rfl ?_
  refine J_aload_n hC dX7_firstGreatest_12 2 rfl rfl ?_
  refine J_iload_n hC dX7_firstGreatest_13 1 rfl rfl ?_
  refine J_iald (i := 0) (v := S 8 0) hC dX7_firstGreatest_14 12 rfl (by omega) (by decide) rfl ?_
  refine J_ic_le (tgt := 20) hC dX7_firstGreatest_15 (by decide) (fun (c_15_0 : (S 8 1) ≤ (S 8 0)) => ?_) (fun (c_15_0 : ¬ (S 8 1) ≤ (S 8 0)) => ?_)
  · refine J_iinc hC [(2, .int 2), (1, .int 0), (0, .ref (a 12))] dX7_firstGreatest_20 0 rfl (by decide +kernel) (by decide) rfl ?_
    refine J_goto (tgt := 4) hC dX7_firstGreatest_23 (by decide) ?_
    refine J_iload_n hC dX7_firstGreatest_4 0 rfl rfl ?_
    refine J_iconst (v := 2) hC dX7_firstGreatest_5 rfl ?_
    refine J_ic_gt (tgt := 26) hC dX7_firstGreatest_6 (by decide) (fun c => absurd c (by decide)) (fun _ => ?_)
    refine J_aload_n hC dX7_firstGreatest_9 2 rfl rfl ?_
    refine J_iload_n hC dX7_firstGreatest_10 0 rfl rfl ?_
    refine J_iald (i := 2) (v := S 8 2) hC dX7_firstGreatest_11 12 rfl (by omega) (by decide) rfl ?_
    refine J_aload_n hC dX7_firstGreatest_12 2 rfl rfl ?_
    refine J_iload_n hC dX7_firstGreatest_13 1 rfl rfl ?_
    refine J_iald (i := 0) (v := S 8 0) hC dX7_firstGreatest_14 12 rfl (by omega) (by decide) rfl ?_
    refine J_ic_le (tgt := 20) hC dX7_firstGreatest_15 (by decide) (fun (c_15_1 : (S 8 2) ≤ (S 8 0)) => ?_) (fun (c_15_1 : ¬ (S 8 2) ≤ (S 8 0)) => ?_)
    · refine J_iinc hC [(2, .int 3), (1, .int 0), (0, .ref (a 12))] dX7_firstGreatest_20 0 rfl (by decide +kernel) (by decide) rfl ?_
      refine J_goto (tgt := 4) hC dX7_firstGreatest_23 (by decide) ?_
      refine J_iload_n hC dX7_firstGreatest_4 0 rfl rfl ?_
      refine J_iconst (v := 2) hC dX7_firstGreatest_5 rfl ?_
      refine J_ic_gt (tgt := 26) hC dX7_firstGreatest_6 (by decide) (fun _ => ?_) (fun c => absurd (by decide) c)
      refine J_iload_n hC dX7_firstGreatest_26 1 rfl rfl ?_
      refine J_iret hC hR dX7_firstGreatest_27 rfl () ?_ ?_ (by decide) (by decide)
      · rw [show s_fg (S 8) = 0 from by simp [s_fg, fo, c_15_0, c_15_1]]; rfl
      · rfl
    · refine J_iload_n hC dX7_firstGreatest_18 0 rfl rfl ?_
      refine J_istore_n hC [(1, .int 2), (2, .int 2), (0, .ref (a 12))] dX7_firstGreatest_19 rfl (by decide) rfl ?_
      refine J_iinc hC [(2, .int 3), (1, .int 2), (0, .ref (a 12))] dX7_firstGreatest_20 1 rfl (by decide +kernel) (by decide) rfl ?_
      refine J_goto (tgt := 4) hC dX7_firstGreatest_23 (by decide) ?_
      refine J_iload_n hC dX7_firstGreatest_4 0 rfl rfl ?_
      refine J_iconst (v := 2) hC dX7_firstGreatest_5 rfl ?_
      refine J_ic_gt (tgt := 26) hC dX7_firstGreatest_6 (by decide) (fun _ => ?_) (fun c => absurd (by decide) c)
      refine J_iload_n hC dX7_firstGreatest_26 1 rfl rfl ?_
      refine J_iret hC hR dX7_firstGreatest_27 rfl () ?_ ?_ (by decide) (by decide)
      · rw [show s_fg (S 8) = 2 from by simp [s_fg, fo, c_15_0, c_15_1]]; rfl
      · rfl
  · refine J_iload_n hC dX7_firstGreatest_18 0 rfl rfl ?_
    refine J_istore_n hC [(1, .int 1), (2, .int 1), (0, .ref (a 12))] dX7_firstGreatest_19 rfl (by decide) rfl ?_
    refine J_iinc hC [(2, .int 2), (1, .int 1), (0, .ref (a 12))] dX7_firstGreatest_20 1 rfl (by decide +kernel) (by decide) rfl ?_
    refine J_goto (tgt := 4) hC dX7_firstGreatest_23 (by decide) ?_
    refine J_iload_n hC dX7_firstGreatest_4 0 rfl rfl ?_
    refine J_iconst (v := 2) hC dX7_firstGreatest_5 rfl ?_
    refine J_ic_gt (tgt := 26) hC dX7_firstGreatest_6 (by decide) (fun c => absurd c (by decide)) (fun _ => ?_)
    refine J_aload_n hC dX7_firstGreatest_9 2 rfl rfl ?_
    refine J_iload_n hC dX7_firstGreatest_10 0 rfl rfl ?_
    refine J_iald (i := 2) (v := S 8 2) hC dX7_firstGreatest_11 12 rfl (by omega) (by decide) rfl ?_
    refine J_aload_n hC dX7_firstGreatest_12 2 rfl rfl ?_
    refine J_iload_n hC dX7_firstGreatest_13 1 rfl rfl ?_
    refine J_iald (i := 1) (v := S 8 1) hC dX7_firstGreatest_14 12 rfl (by omega) (by decide) rfl ?_
    refine J_ic_le (tgt := 20) hC dX7_firstGreatest_15 (by decide) (fun (c_15_1 : (S 8 2) ≤ (S 8 1)) => ?_) (fun (c_15_1 : ¬ (S 8 2) ≤ (S 8 1)) => ?_)
    · refine J_iinc hC [(2, .int 3), (1, .int 1), (0, .ref (a 12))] dX7_firstGreatest_20 0 rfl (by decide +kernel) (by decide) rfl ?_
      refine J_goto (tgt := 4) hC dX7_firstGreatest_23 (by decide) ?_
      refine J_iload_n hC dX7_firstGreatest_4 0 rfl rfl ?_
      refine J_iconst (v := 2) hC dX7_firstGreatest_5 rfl ?_
      refine J_ic_gt (tgt := 26) hC dX7_firstGreatest_6 (by decide) (fun _ => ?_) (fun c => absurd (by decide) c)
      refine J_iload_n hC dX7_firstGreatest_26 1 rfl rfl ?_
      refine J_iret hC hR dX7_firstGreatest_27 rfl () ?_ ?_ (by decide) (by decide)
      · rw [show s_fg (S 8) = 1 from by simp [s_fg, fo, c_15_0, c_15_1]]; rfl
      · rfl
    · refine J_iload_n hC dX7_firstGreatest_18 0 rfl rfl ?_
      refine J_istore_n hC [(1, .int 2), (2, .int 2), (0, .ref (a 12))] dX7_firstGreatest_19 rfl (by decide) rfl ?_
      refine J_iinc hC [(2, .int 3), (1, .int 2), (0, .ref (a 12))] dX7_firstGreatest_20 1 rfl (by decide +kernel) (by decide) rfl ?_
      refine J_goto (tgt := 4) hC dX7_firstGreatest_23 (by decide) ?_
      refine J_iload_n hC dX7_firstGreatest_4 0 rfl rfl ?_
      refine J_iconst (v := 2) hC dX7_firstGreatest_5 rfl ?_
      refine J_ic_gt (tgt := 26) hC dX7_firstGreatest_6 (by decide) (fun _ => ?_) (fun c => absurd (by decide) c)
      refine J_iload_n hC dX7_firstGreatest_26 1 rfl rfl ?_
      refine J_iret hC hR dX7_firstGreatest_27 rfl () ?_ ?_ (by decide) (by decide)
      · rw [show s_fg (S 8) = 2 from by simp [s_fg, fo, c_15_0, c_15_1]]; rfl
      · rfl

set_option maxRecDepth 100000 in
set_option maxHeartbeats 4000000 in
theorem c_X7_firstGreatest_d (l : Launch) (G : gT) (a : Nat → Nat) (S : CT) : MI l yX7_firstGreatest cX7_firstGreatest 3 (some .int) { frames := 0, cells := 0, slots := 0, locals := 0 } [.ref (a 13)] G (stW G a S) (fun r (_ : Unit) => r = nI (s_fg (S 9))) (fun _ => stW G a S) := by
  refine jm_i (own := RX7) (by decide) rfl (Nat.le_of_ble_eq_true rfl) (fun x hl hC hR hN => ?_)
  subst hl
  refine J_iconst (v := 0) hC dX7_firstGreatest_0 rfl ?_
  refine J_istore_n hC [(1, .int 0), (0, .ref (a 13))] dX7_firstGreatest_1 rfl (by decide) rfl ?_
  refine J_iconst (v := 1) hC dX7_firstGreatest_2 rfl ?_
  refine J_istore_n hC [(2, .int 1), (1, .int 0), (0, .ref (a 13))] dX7_firstGreatest_3 rfl (by decide) rfl ?_
  refine J_iload_n hC dX7_firstGreatest_4 0 rfl rfl ?_
  refine J_iconst (v := 2) hC dX7_firstGreatest_5 rfl ?_
  refine J_ic_gt (tgt := 26) hC dX7_firstGreatest_6 (by decide) (fun c => absurd c (by decide)) (fun _ => ?_)
  refine J_aload_n hC dX7_firstGreatest_9 2 rfl rfl ?_
  refine J_iload_n hC dX7_firstGreatest_10 0 rfl rfl ?_
  refine J_iald (i := 1) (v := S 9 1) hC dX7_firstGreatest_11 13 rfl (by omega) (by decide) rfl ?_
  refine J_aload_n hC dX7_firstGreatest_12 2 rfl rfl ?_
  refine J_iload_n hC dX7_firstGreatest_13 1 rfl rfl ?_
  refine J_iald (i := 0) (v := S 9 0) hC dX7_firstGreatest_14 13 rfl (by omega) (by decide) rfl ?_
  refine J_ic_le (tgt := 20) hC dX7_firstGreatest_15 (by decide) (fun (c_15_0 : (S 9 1) ≤ (S 9 0)) => ?_) (fun (c_15_0 : ¬ (S 9 1) ≤ (S 9 0)) => ?_)
  · refine J_iinc hC [(2, .int 2), (1, .int 0), (0, .ref (a 13))] dX7_firstGreatest_20 0 rfl (by decide +kernel) (by decide) rfl ?_
    refine J_goto (tgt := 4) hC dX7_firstGreatest_23 (by decide) ?_
    refine J_iload_n hC dX7_firstGreatest_4 0 rfl rfl ?_
    refine J_iconst (v := 2) hC dX7_firstGreatest_5 rfl ?_
    refine J_ic_gt (tgt := 26) hC dX7_firstGreatest_6 (by decide) (fun c => absurd c (by decide)) (fun _ => ?_)
    refine J_aload_n hC dX7_firstGreatest_9 2 rfl rfl ?_
    refine J_iload_n hC dX7_firstGreatest_10 0 rfl rfl ?_
    refine J_iald (i := 2) (v := S 9 2) hC dX7_firstGreatest_11 13 rfl (by omega) (by decide) rfl ?_
    refine J_aload_n hC dX7_firstGreatest_12 2 rfl rfl ?_
    refine J_iload_n hC dX7_firstGreatest_13 1 rfl rfl ?_
    refine J_iald (i := 0) (v := S 9 0) hC dX7_firstGreatest_14 13 rfl (by omega) (by decide) rfl ?_
    refine J_ic_le (tgt := 20) hC dX7_firstGreatest_15 (by decide) (fun (c_15_1 : (S 9 2) ≤ (S 9 0)) => ?_) (fun (c_15_1 : ¬ (S 9 2) ≤ (S 9 0)) => ?_)
    · refine J_iinc hC [(2, .int 3), (1, .int 0), (0, .ref (a 13))] dX7_firstGreatest_20 0 rfl (by decide +kernel) (by decide) rfl ?_
      refine J_goto (tgt := 4) hC dX7_firstGreatest_23 (by decide) ?_
      refine J_iload_n hC dX7_firstGreatest_4 0 rfl rfl ?_
      refine J_iconst (v := 2) hC dX7_firstGreatest_5 rfl ?_
      refine J_ic_gt (tgt := 26) hC dX7_firstGreatest_6 (by decide) (fun _ => ?_) (fun c => absurd (by decide) c)
      refine J_iload_n hC dX7_firstGreatest_26 1 rfl rfl ?_
      refine J_iret hC hR dX7_firstGreatest_27 rfl () ?_ ?_ (by decide) (by decide)
      · rw [show s_fg (S 9) = 0 from by simp [s_fg, fo, c_15_0, c_15_1]]; rfl
      · rfl
    · refine J_iload_n hC dX7_firstGreatest_18 0 rfl rfl ?_
      refine J_istore_n hC [(1, .int 2), (2, .int 2), (0, .ref (a 13))] dX7_firstGreatest_19 rfl (by decide) rfl ?_
      refine J_iinc hC [(2, .int 3), (1, .int 2), (0, .ref (a 13))] dX7_firstGreatest_20 1 rfl (by decide +kernel) (by decide) rfl ?_
      refine J_goto (tgt := 4) hC dX7_firstGreatest_23 (by decide) ?_
      refine J_iload_n hC dX7_firstGreatest_4 0 rfl rfl ?_
      refine J_iconst (v := 2) hC dX7_firstGreatest_5 rfl ?_
      refine J_ic_gt (tgt := 26) hC dX7_firstGreatest_6 (by decide) (fun _ => ?_) (fun c => absurd (by decide) c)
      refine J_iload_n hC dX7_firstGreatest_26 1 rfl rfl ?_
      refine J_iret hC hR dX7_firstGreatest_27 rfl () ?_ ?_ (by decide) (by decide)
      · rw [show s_fg (S 9) = 2 from by simp [s_fg, fo, c_15_0, c_15_1]]; rfl
      · rfl
  · refine J_iload_n hC dX7_firstGreatest_18 0 rfl rfl ?_
    refine J_istore_n hC [(1, .int 1), (2, .int 1), (0, .ref (a 13))] dX7_firstGreatest_19 rfl (by decide) rfl ?_
    refine J_iinc hC [(2, .int 2), (1, .int 1), (0, .ref (a 13))] dX7_firstGreatest_20 1 rfl (by decide +kernel) (by decide) rfl ?_
    refine J_goto (tgt := 4) hC dX7_firstGreatest_23 (by decide) ?_
    refine J_iload_n hC dX7_firstGreatest_4 0 rfl rfl ?_
    refine J_iconst (v := 2) hC dX7_firstGreatest_5 rfl ?_
    refine J_ic_gt (tgt := 26) hC dX7_firstGreatest_6 (by decide) (fun c => absurd c (by decide)) (fun _ => ?_)
    refine J_aload_n hC dX7_firstGreatest_9 2 rfl rfl ?_
    refine J_iload_n hC dX7_firstGreatest_10 0 rfl rfl ?_
    refine J_iald (i := 2) (v := S 9 2) hC dX7_firstGreatest_11 13 rfl (by omega) (by decide) rfl ?_
    refine J_aload_n hC dX7_firstGreatest_12 2 rfl rfl ?_
    refine J_iload_n hC dX7_firstGreatest_13 1 rfl rfl ?_
    refine J_iald (i := 1) (v := S 9 1) hC dX7_firstGreatest_14 13 rfl (by omega) (by decide) rfl ?_
    refine J_ic_le (tgt := 20) hC dX7_firstGreatest_15 (by decide) (fun (c_15_1 : (S 9 2) ≤ (S 9 1)) => ?_) (fun (c_15_1 : ¬ (S 9 2) ≤ (S 9 1)) => ?_)
    · refine J_iinc hC [(2, .int 3), (1, .int 1), (0, .ref (a 13))] dX7_firstGreatest_20 0 rfl (by decide +kernel) (by decide) rfl ?_
      refine J_goto (tgt := 4) hC dX7_firstGreatest_23 (by decide) ?_
      refine J_iload_n hC dX7_firstGreatest_4 0 rfl rfl ?_
      refine J_iconst (v := 2) hC dX7_firstGreatest_5 rfl ?_
      refine J_ic_gt (tgt := 26) hC dX7_firstGreatest_6 (by decide) (fun _ => ?_) (fun c => absurd (by decide) c)
      refine J_iload_n hC dX7_firstGreatest_26 1 rfl rfl ?_
      refine J_iret hC hR dX7_firstGreatest_27 rfl () ?_ ?_ (by decide) (by decide)
      · rw [show s_fg (S 9) = 1 from by simp [s_fg, fo, c_15_0, c_15_1]]; rfl
      · rfl
    · refine J_iload_n hC dX7_firstGreatest_18 0 rfl rfl ?_
      refine J_istore_n hC [(1, .int 2), (2, .int 2), (0, .ref (a 13))] dX7_firstGreatest_19 rfl (by decide) rfl ?_
      refine J_iinc hC [(2, .int 3), (1, .int 2), (0, .ref (a 13))] dX7_firstGreatest_20 1 rfl (by decide +kernel) (by decide) rfl ?_
      refine J_goto (tgt := 4) hC dX7_firstGreatest_23 (by decide) ?_
      refine J_iload_n hC dX7_firstGreatest_4 0 rfl rfl ?_
      refine J_iconst (v := 2) hC dX7_firstGreatest_5 rfl ?_
      refine J_ic_gt (tgt := 26) hC dX7_firstGreatest_6 (by decide) (fun _ => ?_) (fun c => absurd (by decide) c)
      refine J_iload_n hC dX7_firstGreatest_26 1 rfl rfl ?_
      refine J_iret hC hR dX7_firstGreatest_27 rfl () ?_ ?_ (by decide) (by decide)
      · rw [show s_fg (S 9) = 2 from by simp [s_fg, fo, c_15_0, c_15_1]]; rfl
      · rfl

set_option maxRecDepth 100000 in
set_option maxHeartbeats 4000000 in
theorem c_X7_lastLeast_d (l : Launch) (G : gT) (a : Nat → Nat) (S : CT) : MI l yX7_lastLeast cX7_lastLeast 3 (some .int) { frames := 0, cells := 0, slots := 0, locals := 0 } [.ref (a 13)] G (stW G a S) (fun r (_ : Unit) => r = nI (s_ll (S 9))) (fun _ => stW G a S) := by
  refine jm_i (own := RX7) (by decide) rfl (Nat.le_of_ble_eq_true rfl) (fun x hl hC hR hN => ?_)
  subst hl
  refine J_iconst (v := 0) hC dX7_lastLeast_0 rfl ?_
  refine J_istore_n hC [(1, .int 0), (0, .ref (a 13))] dX7_lastLeast_1 rfl (by decide) rfl ?_
  refine J_iconst (v := 1) hC dX7_lastLeast_2 rfl ?_
  refine J_istore_n hC [(2, .int 1), (1, .int 0), (0, .ref (a 13))] dX7_lastLeast_3 rfl (by decide) rfl ?_
  refine J_iload_n hC dX7_lastLeast_4 0 rfl rfl ?_
  refine J_iconst (v := 2) hC dX7_lastLeast_5 rfl ?_
  refine J_ic_gt (tgt := 26) hC dX7_lastLeast_6 (by decide) (fun c => absurd c (by decide)) (fun _ => ?_)
  refine J_aload_n hC dX7_lastLeast_9 2 rfl rfl ?_
  refine J_iload_n hC dX7_lastLeast_10 0 rfl rfl ?_
  refine J_iald (i := 1) (v := S 9 1) hC dX7_lastLeast_11 13 rfl (by omega) (by decide) rfl ?_
  refine J_aload_n hC dX7_lastLeast_12 2 rfl rfl ?_
  refine J_iload_n hC dX7_lastLeast_13 1 rfl rfl ?_
  refine J_iald (i := 0) (v := S 9 0) hC dX7_lastLeast_14 13 rfl (by omega) (by decide) rfl ?_
  refine J_ic_gt (tgt := 20) hC dX7_lastLeast_15 (by decide) (fun (c_15_0 : (S 9 0) < (S 9 1)) => ?_) (fun (c_15_0 : ¬ (S 9 0) < (S 9 1)) => ?_)
  · refine J_iinc hC [(2, .int 2), (1, .int 0), (0, .ref (a 13))] dX7_lastLeast_20 0 rfl (by decide +kernel) (by decide) rfl ?_
    refine J_goto (tgt := 4) hC dX7_lastLeast_23 (by decide) ?_
    refine J_iload_n hC dX7_lastLeast_4 0 rfl rfl ?_
    refine J_iconst (v := 2) hC dX7_lastLeast_5 rfl ?_
    refine J_ic_gt (tgt := 26) hC dX7_lastLeast_6 (by decide) (fun c => absurd c (by decide)) (fun _ => ?_)
    refine J_aload_n hC dX7_lastLeast_9 2 rfl rfl ?_
    refine J_iload_n hC dX7_lastLeast_10 0 rfl rfl ?_
    refine J_iald (i := 2) (v := S 9 2) hC dX7_lastLeast_11 13 rfl (by omega) (by decide) rfl ?_
    refine J_aload_n hC dX7_lastLeast_12 2 rfl rfl ?_
    refine J_iload_n hC dX7_lastLeast_13 1 rfl rfl ?_
    refine J_iald (i := 0) (v := S 9 0) hC dX7_lastLeast_14 13 rfl (by omega) (by decide) rfl ?_
    refine J_ic_gt (tgt := 20) hC dX7_lastLeast_15 (by decide) (fun (c_15_1 : (S 9 0) < (S 9 2)) => ?_) (fun (c_15_1 : ¬ (S 9 0) < (S 9 2)) => ?_)
    · refine J_iinc hC [(2, .int 3), (1, .int 0), (0, .ref (a 13))] dX7_lastLeast_20 0 rfl (by decide +kernel) (by decide) rfl ?_
      refine J_goto (tgt := 4) hC dX7_lastLeast_23 (by decide) ?_
      refine J_iload_n hC dX7_lastLeast_4 0 rfl rfl ?_
      refine J_iconst (v := 2) hC dX7_lastLeast_5 rfl ?_
      refine J_ic_gt (tgt := 26) hC dX7_lastLeast_6 (by decide) (fun _ => ?_) (fun c => absurd (by decide) c)
      refine J_iload_n hC dX7_lastLeast_26 1 rfl rfl ?_
      refine J_iret hC hR dX7_lastLeast_27 rfl () ?_ ?_ (by decide) (by decide)
      · rw [show s_ll (S 9) = 0 from by simp [s_ll, fo, c_15_0, c_15_1]]; rfl
      · rfl
    · refine J_iload_n hC dX7_lastLeast_18 0 rfl rfl ?_
      refine J_istore_n hC [(1, .int 2), (2, .int 2), (0, .ref (a 13))] dX7_lastLeast_19 rfl (by decide) rfl ?_
      refine J_iinc hC [(2, .int 3), (1, .int 2), (0, .ref (a 13))] dX7_lastLeast_20 1 rfl (by decide +kernel) (by decide) rfl ?_
      refine J_goto (tgt := 4) hC dX7_lastLeast_23 (by decide) ?_
      refine J_iload_n hC dX7_lastLeast_4 0 rfl rfl ?_
      refine J_iconst (v := 2) hC dX7_lastLeast_5 rfl ?_
      refine J_ic_gt (tgt := 26) hC dX7_lastLeast_6 (by decide) (fun _ => ?_) (fun c => absurd (by decide) c)
      refine J_iload_n hC dX7_lastLeast_26 1 rfl rfl ?_
      refine J_iret hC hR dX7_lastLeast_27 rfl () ?_ ?_ (by decide) (by decide)
      · rw [show s_ll (S 9) = 2 from by simp [s_ll, fo, c_15_0, c_15_1]]; rfl
      · rfl
  · refine J_iload_n hC dX7_lastLeast_18 0 rfl rfl ?_
    refine J_istore_n hC [(1, .int 1), (2, .int 1), (0, .ref (a 13))] dX7_lastLeast_19 rfl (by decide) rfl ?_
    refine J_iinc hC [(2, .int 2), (1, .int 1), (0, .ref (a 13))] dX7_lastLeast_20 1 rfl (by decide +kernel) (by decide) rfl ?_
    refine J_goto (tgt := 4) hC dX7_lastLeast_23 (by decide) ?_
    refine J_iload_n hC dX7_lastLeast_4 0 rfl rfl ?_
    refine J_iconst (v := 2) hC dX7_lastLeast_5 rfl ?_
    refine J_ic_gt (tgt := 26) hC dX7_lastLeast_6 (by decide) (fun c => absurd c (by decide)) (fun _ => ?_)
    refine J_aload_n hC dX7_lastLeast_9 2 rfl rfl ?_
    refine J_iload_n hC dX7_lastLeast_10 0 rfl rfl ?_
    refine J_iald (i := 2) (v := S 9 2) hC dX7_lastLeast_11 13 rfl (by omega) (by decide) rfl ?_
    refine J_aload_n hC dX7_lastLeast_12 2 rfl rfl ?_
    refine J_iload_n hC dX7_lastLeast_13 1 rfl rfl ?_
    refine J_iald (i := 1) (v := S 9 1) hC dX7_lastLeast_14 13 rfl (by omega) (by decide) rfl ?_
    refine J_ic_gt (tgt := 20) hC dX7_lastLeast_15 (by decide) (fun (c_15_1 : (S 9 1) < (S 9 2)) => ?_) (fun (c_15_1 : ¬ (S 9 1) < (S 9 2)) => ?_)
    · refine J_iinc hC [(2, .int 3), (1, .int 1), (0, .ref (a 13))] dX7_lastLeast_20 0 rfl (by decide +kernel) (by decide) rfl ?_
      refine J_goto (tgt := 4) hC dX7_lastLeast_23 (by decide) ?_
      refine J_iload_n hC dX7_lastLeast_4 0 rfl rfl ?_
      refine J_iconst (v := 2) hC dX7_lastLeast_5 rfl ?_
      refine J_ic_gt (tgt := 26) hC dX7_lastLeast_6 (by decide) (fun _ => ?_) (fun c => absurd (by decide) c)
      refine J_iload_n hC dX7_lastLeast_26 1 rfl rfl ?_
      refine J_iret hC hR dX7_lastLeast_27 rfl () ?_ ?_ (by decide) (by decide)
      · rw [show s_ll (S 9) = 1 from by simp [s_ll, fo, c_15_0, c_15_1]]; rfl
      · rfl
    · refine J_iload_n hC dX7_lastLeast_18 0 rfl rfl ?_
      refine J_istore_n hC [(1, .int 2), (2, .int 2), (0, .ref (a 13))] dX7_lastLeast_19 rfl (by decide) rfl ?_
      refine J_iinc hC [(2, .int 3), (1, .int 2), (0, .ref (a 13))] dX7_lastLeast_20 1 rfl (by decide +kernel) (by decide) rfl ?_
      refine J_goto (tgt := 4) hC dX7_lastLeast_23 (by decide) ?_
      refine J_iload_n hC dX7_lastLeast_4 0 rfl rfl ?_
      refine J_iconst (v := 2) hC dX7_lastLeast_5 rfl ?_
      refine J_ic_gt (tgt := 26) hC dX7_lastLeast_6 (by decide) (fun _ => ?_) (fun c => absurd (by decide) c)
      refine J_iload_n hC dX7_lastLeast_26 1 rfl rfl ?_
      refine J_iret hC hR dX7_lastLeast_27 rfl () ?_ ?_ (by decide) (by decide)
      · rw [show s_ll (S 9) = 2 from by simp [s_ll, fo, c_15_0, c_15_1]]; rfl
      · rfl

set_option maxRecDepth 100000 in
set_option maxHeartbeats 4000000 in
theorem c_X7_closeYear (l : Launch) (G : gT) (a : Nat → Nat) (S : CT) : MV l yX7_closeYear cX7_closeYear 4 { frames := 1, cells := 0, slots := 0, locals := 22 } [.ref (a 11)] G (stW G a S) (fun (_ : Unit) => True) (fun _ => stW G a (s_closeYear S)) := by
  refine jm_v (own := RX7) (by decide) rfl (Nat.le_of_ble_eq_true rfl) (fun x hl hC hR hN => ?_)
  subst hl
  have key : ∀ fuel : Nat, (∀ (T : CT), (T = s_oddsUp S) → 2 < fuel → J x G (stW G a T) 0 0 [(0, .ref (a 11))] [] 29) ∧ (∀ (U : CT), (U = s_oddsDn (s_oddsUp S) (s_ll (s_oddsUp S 9))) → 1 < fuel → J x G (stW G a U) 0 0 [(0, .ref (a 11))] [] 56) := by
    intro fuel
    induction fuel with
    | zero => exact ⟨fun _ _ h => absurd h (Nat.not_lt_zero _), fun _ _ h => absurd h (Nat.not_lt_zero _)⟩
    | succ fuel ih =>
      refine ⟨?_, ?_⟩
      · intro T hT hmu
        refine J_aload_n hC dX7_closeYear_29 0 rfl rfl ?_
        refine J_get (v := .ref (a 13)) hC wu_X7 rfl dX7_closeYear_30 11 1 (by decide) wf_X7_15 rfl rfl ?_
        refine J_callSi hC dX7_closeYear_33 wl_X7_37 wi_X7 yi_X7_lastLeast (c_X7_lastLeast_d _ G a T) rfl rfl ⟨Nat.le_of_ble_eq_true rfl, Nat.le_of_ble_eq_true rfl⟩ (Nat.le_of_ble_eq_true rfl) (Nat.le_of_ble_eq_true rfl) (Nat.le_of_ble_eq_true rfl) (fun r u h_33 => ?_)
        subst h_33
        have hll := s_ll_lt (T 9)
        refine J_istore_n hC [(2, .int (nI (s_ll (T 9)))), (0, .ref (a 11))] dX7_closeYear_36 rfl (by decide) rfl ?_
        refine J_aload_n hC dX7_closeYear_37 1 rfl rfl ?_
        refine J_get (v := .ref (a 12)) hC wu_X7 rfl dX7_closeYear_38 11 0 (by decide) wf_X7_9 rfl rfl ?_
        refine J_iload_n hC dX7_closeYear_41 0 rfl rfl ?_
        refine J_iald (i := s_ll (T 9)) (v := T 8 (s_ll (T 9))) hC dX7_closeYear_42 12 rfl (by omega) (by decide) rfl ?_
        refine J_if_le (tgt := 56) hC dX7_closeYear_43 (by decide) (fun (c_43 : (T 8 (s_ll (T 9))) ≤ 0) => ?_) (fun (c_43 : ¬ (T 8 (s_ll (T 9))) ≤ 0) => ?_)
        · refine J_lv (lv' := [(0, .ref (a 11))]) [1] rfl ?_
          exact ih.2 T (by rw [← hT, s_oddsDn, if_pos c_43]) (by omega)
        · refine J_aload_n hC dX7_closeYear_46 1 rfl rfl ?_
          refine J_get (v := .ref (a 12)) hC wu_X7 rfl dX7_closeYear_47 11 0 (by decide) wf_X7_9 rfl rfl ?_
          refine J_iload_n hC dX7_closeYear_50 0 rfl rfl ?_
          refine J_dup2 hC dX7_closeYear_51 rfl rfl ?_
          refine J_iald (i := s_ll (T 9)) (v := T 8 (s_ll (T 9))) hC dX7_closeYear_52 12 rfl (by omega) (by decide) rfl ?_
          refine J_iconst (v := 1) hC dX7_closeYear_53 rfl ?_
          refine J_isub (v := (T 8 (s_ll (T 9))) - 1) hC dX7_closeYear_54 rfl ?_
          refine J_iast (i := s_ll (T 9)) (ws' := stW G a (us T 8 (s_ll (T 9)) ((T 8 (s_ll (T 9))) - 1))) hC dX7_closeYear_55 12 rfl (by omega) (by decide) rfl ?_
          refine J_lv (lv' := [(0, .ref (a 11))]) [1] rfl ?_
          exact ih.2 (us T 8 (s_ll (T 9)) ((T 8 (s_ll (T 9))) - 1)) (by rw [← hT, s_oddsDn, if_neg c_43]) (by omega)
      · intro U hU hmu
        refine J_iconst (v := 0) hC dX7_closeYear_56 rfl ?_
        refine J_istore_n hC [(3, .int 0), (0, .ref (a 11))] dX7_closeYear_57 rfl (by decide) rfl ?_
        refine J_iload_n hC dX7_closeYear_58 0 rfl rfl ?_
        refine J_iconst (v := 2) hC dX7_closeYear_59 rfl ?_
        refine J_ic_gt (tgt := 76) hC dX7_closeYear_60 (by decide) (fun c => absurd c (by decide)) (fun _ => ?_)
        refine J_aload_n hC dX7_closeYear_63 1 rfl rfl ?_
        refine J_get (v := .ref (a 13)) hC wu_X7 rfl dX7_closeYear_64 11 1 (by decide) wf_X7_15 rfl rfl ?_
        refine J_iload_n hC dX7_closeYear_67 0 rfl rfl ?_
        refine J_iconst (v := 0) hC dX7_closeYear_68 rfl ?_
        refine J_iast (i := 0) (ws' := stW G a (us U 9 0 0)) hC dX7_closeYear_69 13 rfl (by omega) (by decide) rfl ?_
        refine J_iinc hC [(3, .int 1), (0, .ref (a 11))] dX7_closeYear_70 0 rfl (by decide +kernel) (by decide) rfl ?_
        refine J_goto (tgt := 58) hC dX7_closeYear_73 (by decide) ?_
        refine J_iload_n hC dX7_closeYear_58 0 rfl rfl ?_
        refine J_iconst (v := 2) hC dX7_closeYear_59 rfl ?_
        refine J_ic_gt (tgt := 76) hC dX7_closeYear_60 (by decide) (fun c => absurd c (by decide)) (fun _ => ?_)
        refine J_aload_n hC dX7_closeYear_63 1 rfl rfl ?_
        refine J_get (v := .ref (a 13)) hC wu_X7 rfl dX7_closeYear_64 11 1 (by decide) wf_X7_15 rfl rfl ?_
        refine J_iload_n hC dX7_closeYear_67 0 rfl rfl ?_
        refine J_iconst (v := 0) hC dX7_closeYear_68 rfl ?_
        refine J_iast (i := 1) (ws' := stW G a (us (us U 9 0 0) 9 1 0)) hC dX7_closeYear_69 13 rfl (by omega) (by decide) rfl ?_
        refine J_iinc hC [(3, .int 2), (0, .ref (a 11))] dX7_closeYear_70 0 rfl (by decide +kernel) (by decide) rfl ?_
        refine J_goto (tgt := 58) hC dX7_closeYear_73 (by decide) ?_
        refine J_iload_n hC dX7_closeYear_58 0 rfl rfl ?_
        refine J_iconst (v := 2) hC dX7_closeYear_59 rfl ?_
        refine J_ic_gt (tgt := 76) hC dX7_closeYear_60 (by decide) (fun c => absurd c (by decide)) (fun _ => ?_)
        refine J_aload_n hC dX7_closeYear_63 1 rfl rfl ?_
        refine J_get (v := .ref (a 13)) hC wu_X7 rfl dX7_closeYear_64 11 1 (by decide) wf_X7_15 rfl rfl ?_
        refine J_iload_n hC dX7_closeYear_67 0 rfl rfl ?_
        refine J_iconst (v := 0) hC dX7_closeYear_68 rfl ?_
        refine J_iast (i := 2) (ws' := stW G a (us (us (us U 9 0 0) 9 1 0) 9 2 0)) hC dX7_closeYear_69 13 rfl (by omega) (by decide) rfl ?_
        refine J_iinc hC [(3, .int 3), (0, .ref (a 11))] dX7_closeYear_70 0 rfl (by decide +kernel) (by decide) rfl ?_
        refine J_goto (tgt := 58) hC dX7_closeYear_73 (by decide) ?_
        refine J_iload_n hC dX7_closeYear_58 0 rfl rfl ?_
        refine J_iconst (v := 2) hC dX7_closeYear_59 rfl ?_
        refine J_ic_gt (tgt := 76) hC dX7_closeYear_60 (by decide) (fun _ => ?_) (fun c => absurd (by decide) c)
        refine J_vret hC hR dX7_closeYear_76 () ?_ ?_ (by decide) (by decide)
        · trivial
        · rw [hU]; rfl
  refine J_aload_n hC dX7_closeYear_0 0 rfl rfl ?_
  refine J_get (v := .ref (a 13)) hC wu_X7 rfl dX7_closeYear_1 11 1 (by decide) wf_X7_15 rfl rfl ?_
  refine J_callSi hC dX7_closeYear_4 wl_X7_33 wi_X7 yi_X7_firstGreatest (c_X7_firstGreatest_d _ G a S) rfl rfl ⟨Nat.le_of_ble_eq_true rfl, Nat.le_of_ble_eq_true rfl⟩ (Nat.le_of_ble_eq_true rfl) (Nat.le_of_ble_eq_true rfl) (Nat.le_of_ble_eq_true rfl) (fun r u h_4 => ?_)
  subst h_4
  have hfg := s_fg_lt (S 9)
  refine J_istore_n hC [(1, .int (nI (s_fg (S 9)))), (0, .ref (a 11))] dX7_closeYear_7 rfl (by decide) rfl ?_
  refine J_aload_n hC dX7_closeYear_8 1 rfl rfl ?_
  refine J_get (v := .ref (a 12)) hC wu_X7 rfl dX7_closeYear_9 11 0 (by decide) wf_X7_9 rfl rfl ?_
  refine J_iload_n hC dX7_closeYear_12 0 rfl rfl ?_
  refine J_iald (i := s_fg (S 9)) (v := S 8 (s_fg (S 9))) hC dX7_closeYear_13 12 rfl (by omega) (by decide) rfl ?_
  refine J_bipush (v := 20) hC dX7_closeYear_14 (by decide +kernel) ?_
  refine J_ic_ge (tgt := 29) hC dX7_closeYear_16 (by decide) (fun (c_16 : 20 ≤ (S 8 (s_fg (S 9)))) => ?_) (fun (c_16 : ¬ 20 ≤ (S 8 (s_fg (S 9)))) => ?_)
  · refine J_lv (lv' := [(0, .ref (a 11))]) [1] rfl ?_
    exact ((key _).1) S (by rw [s_oddsUp, if_pos c_16]) (Nat.lt_succ_self _)
  · refine J_aload_n hC dX7_closeYear_19 1 rfl rfl ?_
    refine J_get (v := .ref (a 12)) hC wu_X7 rfl dX7_closeYear_20 11 0 (by decide) wf_X7_9 rfl rfl ?_
    refine J_iload_n hC dX7_closeYear_23 0 rfl rfl ?_
    refine J_dup2 hC dX7_closeYear_24 rfl rfl ?_
    refine J_iald (i := s_fg (S 9)) (v := S 8 (s_fg (S 9))) hC dX7_closeYear_25 12 rfl (by omega) (by decide) rfl ?_
    refine J_iconst (v := 1) hC dX7_closeYear_26 rfl ?_
    refine J_iadd (v := (S 8 (s_fg (S 9))) + 1) hC dX7_closeYear_27 rfl ?_
    refine J_iast (i := s_fg (S 9)) (ws' := stW G a (us S 8 (s_fg (S 9)) ((S 8 (s_fg (S 9))) + 1))) hC dX7_closeYear_28 12 rfl (by omega) (by decide) rfl ?_
    refine J_lv (lv' := [(0, .ref (a 11))]) [1] rfl ?_
    exact ((key _).1) (us S 8 (s_fg (S 9)) ((S 8 (s_fg (S 9))) + 1)) (by rw [s_oddsUp, if_neg c_16]) (Nat.lt_succ_self _)

set_option maxRecDepth 100000 in
set_option maxHeartbeats 4000000 in
theorem c_X4_add (l : Launch) (G : gT) (a : Nat → Nat) (S : CT) (mc : Nat) (v : Int32) (d : Int32) (hmc : S 16 13 = nI mc) (bmc : mc ≤ 10) : MV l yX4_add cX4_add 3 { frames := 1, cells := 0, slots := 0, locals := 32 } [.ref (a 20), .int v, .int d] G (stW G a S) (fun (_ : Unit) => True) (fun _ => stW G a (s_memAdd S v d mc)) := by
  refine jm_v (own := RX4) (by decide) rfl (Nat.le_of_ble_eq_true rfl) (fun x hl hC hR hN => ?_)
  subst hl
  refine J_aload_n hC dX4_add_0 0 rfl rfl ?_
  refine J_get (v := .int (S 16 13)) hC wu_X4 rfl dX4_add_1 20 1 (by decide) wf_X4_13 rfl rfl ?_
  refine J_topi hmc ?_
  refine J_bipush (v := 10) hC dX4_add_4 (by decide +kernel) ?_
  refine J_ic_ltN (a := mc) (b := 10) (tgt := 30) hC dX4_add_6 (by decide) (by omega) (by omega) (fun (c_6 : mc < 10) => ?_) (fun (c_6 : 10 ≤ mc) => ?_)
  · refine J_aload_n hC dX4_add_30 0 rfl rfl ?_
    refine J_get (v := .ref (a 21)) hC wu_X4 rfl dX4_add_31 20 0 (by decide) wf_X4_9 rfl rfl ?_
    refine J_aload_n hC dX4_add_34 0 rfl rfl ?_
    refine J_get (v := .int (S 16 13)) hC wu_X4 rfl dX4_add_35 20 1 (by decide) wf_X4_13 rfl rfl ?_
    refine J_topi hmc ?_
    refine J_iload_n hC dX4_add_38 1 rfl rfl ?_
    refine J_iload_n hC dX4_add_39 2 rfl rfl ?_
    refine J_callSNi hC dX4_add_40 wln_X4_23 yi_X10_labelOf (c_X10_labelOf _ G (stW G a S) v d) rfl rfl ⟨Nat.le_of_ble_eq_true rfl, Nat.le_of_ble_eq_true rfl⟩ (Nat.le_of_ble_eq_true rfl) (Nat.le_of_ble_eq_true rfl) (Nat.le_of_ble_eq_true rfl) (fun r u h_40 => ?_)
    subst h_40
    refine J_iast (i := mc) (ws' := stW G a (us S 15 mc (s_label v d))) hC dX4_add_43 21 rfl (by omega) (by decide) rfl ?_
    refine J_aload_n hC dX4_add_44 0 rfl rfl ?_
    refine J_dup hC dX4_add_45 rfl ?_
    refine J_get (v := .int (S 16 13)) hC wu_X4 rfl dX4_add_46 20 1 (by decide) wf_X4_13 rfl rfl ?_
    refine J_topi hmc ?_
    refine J_iconst (v := 1) hC dX4_add_49 rfl ?_
    refine J_iadd (v := nI (mc + 1)) hC dX4_add_50 (nI_add mc 1) ?_
    refine J_put (ws' := stW G a (us (us S 15 mc (s_label v d)) 16 13 (nI (mc + 1)))) hC wu_X4 rfl tyX4_ok nmX4 dX4_add_51 20 1 (by decide) wf_X4_13 rfl rfl (Nat.le_of_ble_eq_true rfl) rfl rfl rfl ?_
    refine J_vret hC hR dX4_add_54 () ?_ ?_ (by decide) (by decide)
    · trivial
    · rw [s_memAdd, if_neg (by omega)]
  · refine J_aload_n hC dX4_add_9 0 rfl rfl ?_
    refine J_get (v := .ref (a 21)) hC wu_X4 rfl dX4_add_10 20 0 (by decide) wf_X4_9 rfl rfl ?_
    refine J_iconst (v := 1) hC dX4_add_13 rfl ?_
    refine J_aload_n hC dX4_add_14 0 rfl rfl ?_
    refine J_get (v := .ref (a 21)) hC wu_X4 rfl dX4_add_15 20 0 (by decide) wf_X4_9 rfl rfl ?_
    refine J_iconst (v := 0) hC dX4_add_18 rfl ?_
    refine J_bipush (v := 9) hC dX4_add_19 (by decide +kernel) ?_
    refine J_copy (sp := 1) (dp := 0) (m := 9) (ws' := stW G a (ur S 15 (va_cpy (S 15) (S 15) 1 0 9))) hC dX4_add_21 wl_X4_17 21 21 rfl rfl (by omega) (by omega) (by decide) (by decide) (Nat.le_of_ble_eq_true rfl) (Nat.le_of_ble_eq_true rfl) rfl ?_
    refine J_aload_n hC dX4_add_24 0 rfl rfl ?_
    refine J_bipush (v := 9) hC dX4_add_25 (by decide +kernel) ?_
    refine J_put (ws' := stW G a (us (ur S 15 (va_cpy (S 15) (S 15) 1 0 9)) 16 13 9)) hC wu_X4 rfl tyX4_ok nmX4 dX4_add_27 20 1 (by decide) wf_X4_13 rfl rfl (Nat.le_of_ble_eq_true rfl) rfl rfl rfl ?_
    refine J_aload_n hC dX4_add_30 0 rfl rfl ?_
    refine J_get (v := .ref (a 21)) hC wu_X4 rfl dX4_add_31 20 0 (by decide) wf_X4_9 rfl rfl ?_
    refine J_aload_n hC dX4_add_34 0 rfl rfl ?_
    refine J_get (v := .int 9) hC wu_X4 rfl dX4_add_35 20 1 (by decide) wf_X4_13 rfl rfl ?_
    refine J_iload_n hC dX4_add_38 1 rfl rfl ?_
    refine J_iload_n hC dX4_add_39 2 rfl rfl ?_
    refine J_callSNi hC dX4_add_40 wln_X4_23 yi_X10_labelOf (c_X10_labelOf _ G (stW G a (us (ur S 15 (va_cpy (S 15) (S 15) 1 0 9)) 16 13 9)) v d) rfl rfl ⟨Nat.le_of_ble_eq_true rfl, Nat.le_of_ble_eq_true rfl⟩ (Nat.le_of_ble_eq_true rfl) (Nat.le_of_ble_eq_true rfl) (Nat.le_of_ble_eq_true rfl) (fun r u h_40 => ?_)
    subst h_40
    refine J_iast (i := 9) (ws' := stW G a (us (us (ur S 15 (va_cpy (S 15) (S 15) 1 0 9)) 16 13 9) 15 9 (s_label v d))) hC dX4_add_43 21 rfl (by omega) (by decide) rfl ?_
    refine J_aload_n hC dX4_add_44 0 rfl rfl ?_
    refine J_dup hC dX4_add_45 rfl ?_
    refine J_get (v := .int 9) hC wu_X4 rfl dX4_add_46 20 1 (by decide) wf_X4_13 rfl rfl ?_
    refine J_iconst (v := 1) hC dX4_add_49 rfl ?_
    refine J_iadd (v := nI (9 + 1)) hC dX4_add_50 (nI_add 9 1) ?_
    refine J_put (ws' := stW G a (us (us (us (ur S 15 (va_cpy (S 15) (S 15) 1 0 9)) 16 13 9) 15 9 (s_label v d)) 16 13 (nI (9 + 1)))) hC wu_X4 rfl tyX4_ok nmX4 dX4_add_51 20 1 (by decide) wf_X4_13 rfl rfl (Nat.le_of_ble_eq_true rfl) rfl rfl rfl ?_
    refine J_vret hC hR dX4_add_54 () ?_ ?_ (by decide) (by decide)
    · trivial
    · rw [s_memAdd, if_pos c_6]

set_option maxRecDepth 100000 in
set_option maxHeartbeats 4000000 in
theorem c_X9_takeFrom (l : Launch) (G : gT) (a b : Nat → Nat) (S : CT) (T : CT) : MV l yX9_takeFrom cX9_takeFrom 2 { frames := 1, cells := 0, slots := 0, locals := 32 } [.ref (a 1), .ref (b 1)] G (stW G a S ++ stW G b T) (fun (_ : Unit) => True) (fun _ => stW G a (us (ur (ur (ur S 0 (T 0)) 1 (T 1)) 2 (T 2)) 16 9 (T 16 9)) ++ stW G b T) := by
  refine jm_v (own := RX9) (by decide) rfl (Nat.le_of_ble_eq_true rfl) (fun x hl hC hR hN => ?_)
  subst hl
  refine J_aload_n hC dX9_takeFrom_0 1 rfl rfl ?_
  refine J_get (v := .ref (b 2)) hC wu_X9 rfl dX9_takeFrom_1 23 0 (by decide) wf_X9_9 rfl rfl ?_
  refine J_iconst (v := 0) hC dX9_takeFrom_4 rfl ?_
  refine J_aload_n hC dX9_takeFrom_5 0 rfl rfl ?_
  refine J_get (v := .ref (a 2)) hC wu_X9 rfl dX9_takeFrom_6 1 0 (by decide) wf_X9_9 rfl rfl ?_
  refine J_iconst (v := 0) hC dX9_takeFrom_9 rfl ?_
  refine J_bipush (v := 6) hC dX9_takeFrom_10 (by decide +kernel) ?_
  refine J_copyall (m := 6) (ws' := stW G a (ur S 0 (T 0)) ++ stW G b T) hC dX9_takeFrom_12 wl_X9_33 24 2 rfl rfl (by decide) (Nat.le_of_ble_eq_true rfl) (Nat.le_of_ble_eq_true rfl) rfl ?_
  refine J_aload_n hC dX9_takeFrom_15 1 rfl rfl ?_
  refine J_get (v := .ref (b 3)) hC wu_X9 rfl dX9_takeFrom_16 23 1 (by decide) wf_X9_15 rfl rfl ?_
  refine J_iconst (v := 0) hC dX9_takeFrom_19 rfl ?_
  refine J_aload_n hC dX9_takeFrom_20 0 rfl rfl ?_
  refine J_get (v := .ref (a 3)) hC wu_X9 rfl dX9_takeFrom_21 1 1 (by decide) wf_X9_15 rfl rfl ?_
  refine J_iconst (v := 0) hC dX9_takeFrom_24 rfl ?_
  refine J_bipush (v := 6) hC dX9_takeFrom_25 (by decide +kernel) ?_
  refine J_copyall (m := 6) (ws' := stW G a (ur (ur S 0 (T 0)) 1 (T 1)) ++ stW G b T) hC dX9_takeFrom_27 wl_X9_33 25 3 rfl rfl (by decide) (Nat.le_of_ble_eq_true rfl) (Nat.le_of_ble_eq_true rfl) rfl ?_
  refine J_aload_n hC dX9_takeFrom_30 1 rfl rfl ?_
  refine J_get (v := .ref (b 4)) hC wu_X9 rfl dX9_takeFrom_31 23 2 (by decide) wf_X9_18 rfl rfl ?_
  refine J_iconst (v := 0) hC dX9_takeFrom_34 rfl ?_
  refine J_aload_n hC dX9_takeFrom_35 0 rfl rfl ?_
  refine J_get (v := .ref (a 4)) hC wu_X9 rfl dX9_takeFrom_36 1 2 (by decide) wf_X9_18 rfl rfl ?_
  refine J_iconst (v := 0) hC dX9_takeFrom_39 rfl ?_
  refine J_bipush (v := 6) hC dX9_takeFrom_40 (by decide +kernel) ?_
  refine J_copyall (m := 6) (ws' := stW G a (ur (ur (ur S 0 (T 0)) 1 (T 1)) 2 (T 2)) ++ stW G b T) hC dX9_takeFrom_42 wl_X9_33 26 4 rfl rfl (by decide) (Nat.le_of_ble_eq_true rfl) (Nat.le_of_ble_eq_true rfl) rfl ?_
  refine J_aload_n hC dX9_takeFrom_45 0 rfl rfl ?_
  refine J_aload_n hC dX9_takeFrom_46 1 rfl rfl ?_
  refine J_get (v := .int (T 16 9)) hC wu_X9 rfl dX9_takeFrom_47 23 3 (by decide) wf_X9_21 rfl rfl ?_
  refine J_put (ws' := stW G a (us (ur (ur (ur S 0 (T 0)) 1 (T 1)) 2 (T 2)) 16 9 (T 16 9)) ++ stW G b T) hC wu_X9 rfl tyX9_ok nmX9 dX9_takeFrom_50 1 3 (by decide) wf_X9_21 rfl rfl (Nat.le_of_ble_eq_true rfl) rfl rfl rfl ?_
  refine J_vret hC hR dX9_takeFrom_53 () ?_ ?_ (by decide) (by decide)
  · trivial
  · rfl

set_option maxRecDepth 100000 in
set_option maxHeartbeats 4000000 in
theorem c_X2_takeFrom (l : Launch) (G : gT) (a b : Nat → Nat) (S : CT) (T : CT) : MV l yX2_takeFrom cX2_takeFrom 2 { frames := 1, cells := 0, slots := 0, locals := 32 } [.ref (a 5), .ref (b 5)] G (stW G a S ++ stW G b T) (fun (_ : Unit) => True) (fun _ => stW G a (us (ur (ur (ur (ur (ur S 3 (T 3)) 4 (T 4)) 5 (T 5)) 6 (T 6)) 7 (T 7)) 16 10 (T 16 10)) ++ stW G b T) := by
  refine jm_v (own := RX2) (by decide) rfl (Nat.le_of_ble_eq_true rfl) (fun x hl hC hR hN => ?_)
  subst hl
  refine J_aload_n hC dX2_takeFrom_0 1 rfl rfl ?_
  refine J_get (v := .ref (b 6)) hC wu_X2 rfl dX2_takeFrom_1 27 0 (by decide) wf_X2_9 rfl rfl ?_
  refine J_iconst (v := 0) hC dX2_takeFrom_4 rfl ?_
  refine J_aload_n hC dX2_takeFrom_5 0 rfl rfl ?_
  refine J_get (v := .ref (a 6)) hC wu_X2 rfl dX2_takeFrom_6 5 0 (by decide) wf_X2_9 rfl rfl ?_
  refine J_iconst (v := 0) hC dX2_takeFrom_9 rfl ?_
  refine J_bipush (v := 6) hC dX2_takeFrom_10 (by decide +kernel) ?_
  refine J_copyall (m := 6) (ws' := stW G a (ur S 3 (T 3)) ++ stW G b T) hC dX2_takeFrom_12 wl_X2_35 28 6 rfl rfl (by decide) (Nat.le_of_ble_eq_true rfl) (Nat.le_of_ble_eq_true rfl) rfl ?_
  refine J_aload_n hC dX2_takeFrom_15 1 rfl rfl ?_
  refine J_get (v := .ref (b 7)) hC wu_X2 rfl dX2_takeFrom_16 27 1 (by decide) wf_X2_15 rfl rfl ?_
  refine J_iconst (v := 0) hC dX2_takeFrom_19 rfl ?_
  refine J_aload_n hC dX2_takeFrom_20 0 rfl rfl ?_
  refine J_get (v := .ref (a 7)) hC wu_X2 rfl dX2_takeFrom_21 5 1 (by decide) wf_X2_15 rfl rfl ?_
  refine J_iconst (v := 0) hC dX2_takeFrom_24 rfl ?_
  refine J_bipush (v := 6) hC dX2_takeFrom_25 (by decide +kernel) ?_
  refine J_copyall (m := 6) (ws' := stW G a (ur (ur S 3 (T 3)) 4 (T 4)) ++ stW G b T) hC dX2_takeFrom_27 wl_X2_35 29 7 rfl rfl (by decide) (Nat.le_of_ble_eq_true rfl) (Nat.le_of_ble_eq_true rfl) rfl ?_
  refine J_aload_n hC dX2_takeFrom_30 1 rfl rfl ?_
  refine J_get (v := .ref (b 8)) hC wu_X2 rfl dX2_takeFrom_31 27 2 (by decide) wf_X2_18 rfl rfl ?_
  refine J_iconst (v := 0) hC dX2_takeFrom_34 rfl ?_
  refine J_aload_n hC dX2_takeFrom_35 0 rfl rfl ?_
  refine J_get (v := .ref (a 8)) hC wu_X2 rfl dX2_takeFrom_36 5 2 (by decide) wf_X2_18 rfl rfl ?_
  refine J_iconst (v := 0) hC dX2_takeFrom_39 rfl ?_
  refine J_bipush (v := 6) hC dX2_takeFrom_40 (by decide +kernel) ?_
  refine J_copyall (m := 6) (ws' := stW G a (ur (ur (ur S 3 (T 3)) 4 (T 4)) 5 (T 5)) ++ stW G b T) hC dX2_takeFrom_42 wl_X2_35 30 8 rfl rfl (by decide) (Nat.le_of_ble_eq_true rfl) (Nat.le_of_ble_eq_true rfl) rfl ?_
  refine J_aload_n hC dX2_takeFrom_45 1 rfl rfl ?_
  refine J_get (v := .ref (b 9)) hC wu_X2 rfl dX2_takeFrom_46 27 3 (by decide) wf_X2_21 rfl rfl ?_
  refine J_iconst (v := 0) hC dX2_takeFrom_49 rfl ?_
  refine J_aload_n hC dX2_takeFrom_50 0 rfl rfl ?_
  refine J_get (v := .ref (a 9)) hC wu_X2 rfl dX2_takeFrom_51 5 3 (by decide) wf_X2_21 rfl rfl ?_
  refine J_iconst (v := 0) hC dX2_takeFrom_54 rfl ?_
  refine J_bipush (v := 6) hC dX2_takeFrom_55 (by decide +kernel) ?_
  refine J_copyall (m := 6) (ws' := stW G a (ur (ur (ur (ur S 3 (T 3)) 4 (T 4)) 5 (T 5)) 6 (T 6)) ++ stW G b T) hC dX2_takeFrom_57 wl_X2_35 31 9 rfl rfl (by decide) (Nat.le_of_ble_eq_true rfl) (Nat.le_of_ble_eq_true rfl) rfl ?_
  refine J_aload_n hC dX2_takeFrom_60 1 rfl rfl ?_
  refine J_get (v := .ref (b 10)) hC wu_X2 rfl dX2_takeFrom_61 27 4 (by decide) wf_X2_24 rfl rfl ?_
  refine J_iconst (v := 0) hC dX2_takeFrom_64 rfl ?_
  refine J_aload_n hC dX2_takeFrom_65 0 rfl rfl ?_
  refine J_get (v := .ref (a 10)) hC wu_X2 rfl dX2_takeFrom_66 5 4 (by decide) wf_X2_24 rfl rfl ?_
  refine J_iconst (v := 0) hC dX2_takeFrom_69 rfl ?_
  refine J_bipush (v := 6) hC dX2_takeFrom_70 (by decide +kernel) ?_
  refine J_copyall (m := 6) (ws' := stW G a (ur (ur (ur (ur (ur S 3 (T 3)) 4 (T 4)) 5 (T 5)) 6 (T 6)) 7 (T 7)) ++ stW G b T) hC dX2_takeFrom_72 wl_X2_35 32 10 rfl rfl (by decide) (Nat.le_of_ble_eq_true rfl) (Nat.le_of_ble_eq_true rfl) rfl ?_
  refine J_aload_n hC dX2_takeFrom_75 0 rfl rfl ?_
  refine J_aload_n hC dX2_takeFrom_76 1 rfl rfl ?_
  refine J_get (v := .int (T 16 10)) hC wu_X2 rfl dX2_takeFrom_77 27 5 (by decide) wf_X2_27 rfl rfl ?_
  refine J_put (ws' := stW G a (us (ur (ur (ur (ur (ur S 3 (T 3)) 4 (T 4)) 5 (T 5)) 6 (T 6)) 7 (T 7)) 16 10 (T 16 10)) ++ stW G b T) hC wu_X2 rfl tyX2_ok nmX2 dX2_takeFrom_80 5 5 (by decide) wf_X2_27 rfl rfl (Nat.le_of_ble_eq_true rfl) rfl rfl rfl ?_
  refine J_vret hC hR dX2_takeFrom_83 () ?_ ?_ (by decide) (by decide)
  · trivial
  · rfl

set_option maxRecDepth 100000 in
set_option maxHeartbeats 4000000 in
theorem c_X7_takeFrom (l : Launch) (G : gT) (a b : Nat → Nat) (S : CT) (T : CT) : MV l yX7_takeFrom cX7_takeFrom 2 { frames := 1, cells := 0, slots := 0, locals := 32 } [.ref (a 11), .ref (b 11)] G (stW G a S ++ stW G b T) (fun (_ : Unit) => True) (fun _ => stW G a (us (ur (ur S 8 (T 8)) 9 (T 9)) 16 11 (T 16 11)) ++ stW G b T) := by
  refine jm_v (own := RX7) (by decide) rfl (Nat.le_of_ble_eq_true rfl) (fun x hl hC hR hN => ?_)
  subst hl
  refine J_aload_n hC dX7_takeFrom_0 1 rfl rfl ?_
  refine J_get (v := .ref (b 12)) hC wu_X7 rfl dX7_takeFrom_1 33 0 (by decide) wf_X7_9 rfl rfl ?_
  refine J_iconst (v := 0) hC dX7_takeFrom_4 rfl ?_
  refine J_aload_n hC dX7_takeFrom_5 0 rfl rfl ?_
  refine J_get (v := .ref (a 12)) hC wu_X7 rfl dX7_takeFrom_6 11 0 (by decide) wf_X7_9 rfl rfl ?_
  refine J_iconst (v := 0) hC dX7_takeFrom_9 rfl ?_
  refine J_iconst (v := 3) hC dX7_takeFrom_10 rfl ?_
  refine J_copyall (m := 3) (ws' := stW G a (ur S 8 (T 8)) ++ stW G b T) hC dX7_takeFrom_11 wl_X7_40 34 12 rfl rfl (by decide) (Nat.le_of_ble_eq_true rfl) (Nat.le_of_ble_eq_true rfl) rfl ?_
  refine J_aload_n hC dX7_takeFrom_14 1 rfl rfl ?_
  refine J_get (v := .ref (b 13)) hC wu_X7 rfl dX7_takeFrom_15 33 1 (by decide) wf_X7_15 rfl rfl ?_
  refine J_iconst (v := 0) hC dX7_takeFrom_18 rfl ?_
  refine J_aload_n hC dX7_takeFrom_19 0 rfl rfl ?_
  refine J_get (v := .ref (a 13)) hC wu_X7 rfl dX7_takeFrom_20 11 1 (by decide) wf_X7_15 rfl rfl ?_
  refine J_iconst (v := 0) hC dX7_takeFrom_23 rfl ?_
  refine J_iconst (v := 3) hC dX7_takeFrom_24 rfl ?_
  refine J_copyall (m := 3) (ws' := stW G a (ur (ur S 8 (T 8)) 9 (T 9)) ++ stW G b T) hC dX7_takeFrom_25 wl_X7_40 35 13 rfl rfl (by decide) (Nat.le_of_ble_eq_true rfl) (Nat.le_of_ble_eq_true rfl) rfl ?_
  refine J_aload_n hC dX7_takeFrom_28 0 rfl rfl ?_
  refine J_aload_n hC dX7_takeFrom_29 1 rfl rfl ?_
  refine J_get (v := .int (T 16 11)) hC wu_X7 rfl dX7_takeFrom_30 33 2 (by decide) wf_X7_18 rfl rfl ?_
  refine J_put (ws' := stW G a (us (ur (ur S 8 (T 8)) 9 (T 9)) 16 11 (T 16 11)) ++ stW G b T) hC wu_X7 rfl tyX7_ok nmX7 dX7_takeFrom_33 11 2 (by decide) wf_X7_18 rfl rfl (Nat.le_of_ble_eq_true rfl) rfl rfl rfl ?_
  refine J_vret hC hR dX7_takeFrom_36 () ?_ ?_ (by decide) (by decide)
  · trivial
  · rfl

set_option maxRecDepth 100000 in
set_option maxHeartbeats 4000000 in
theorem c_X0_takeFrom (l : Launch) (G : gT) (a b : Nat → Nat) (S : CT) (T : CT) : MV l yX0_takeFrom cX0_takeFrom 2 { frames := 1, cells := 0, slots := 0, locals := 32 } [.ref (a 14), .ref (b 14)] G (stW G a S ++ stW G b T) (fun (_ : Unit) => True) (fun _ => stW G a (us (ur (ur (ur (ur (ur S 10 (T 10)) 11 (T 11)) 12 (T 12)) 13 (T 13)) 14 (T 14)) 16 12 (T 16 12)) ++ stW G b T) := by
  refine jm_v (own := RX0) (by decide) rfl (Nat.le_of_ble_eq_true rfl) (fun x hl hC hR hN => ?_)
  subst hl
  refine J_aload_n hC dX0_takeFrom_0 1 rfl rfl ?_
  refine J_get (v := .ref (b 15)) hC wu_X0 rfl dX0_takeFrom_1 36 0 (by decide) wf_X0_9 rfl rfl ?_
  refine J_iconst (v := 0) hC dX0_takeFrom_4 rfl ?_
  refine J_aload_n hC dX0_takeFrom_5 0 rfl rfl ?_
  refine J_get (v := .ref (a 15)) hC wu_X0 rfl dX0_takeFrom_6 14 0 (by decide) wf_X0_9 rfl rfl ?_
  refine J_iconst (v := 0) hC dX0_takeFrom_9 rfl ?_
  refine J_bipush (v := 30) hC dX0_takeFrom_10 (by decide +kernel) ?_
  refine J_copyall (m := 30) (ws' := stW G a (ur S 10 (T 10)) ++ stW G b T) hC dX0_takeFrom_12 wl_X0_35 37 15 rfl rfl (by decide) (Nat.le_of_ble_eq_true rfl) (Nat.le_of_ble_eq_true rfl) rfl ?_
  refine J_aload_n hC dX0_takeFrom_15 1 rfl rfl ?_
  refine J_get (v := .ref (b 16)) hC wu_X0 rfl dX0_takeFrom_16 36 1 (by decide) wf_X0_15 rfl rfl ?_
  refine J_iconst (v := 0) hC dX0_takeFrom_19 rfl ?_
  refine J_aload_n hC dX0_takeFrom_20 0 rfl rfl ?_
  refine J_get (v := .ref (a 16)) hC wu_X0 rfl dX0_takeFrom_21 14 1 (by decide) wf_X0_15 rfl rfl ?_
  refine J_iconst (v := 0) hC dX0_takeFrom_24 rfl ?_
  refine J_bipush (v := 30) hC dX0_takeFrom_25 (by decide +kernel) ?_
  refine J_copyall (m := 30) (ws' := stW G a (ur (ur S 10 (T 10)) 11 (T 11)) ++ stW G b T) hC dX0_takeFrom_27 wl_X0_35 38 16 rfl rfl (by decide) (Nat.le_of_ble_eq_true rfl) (Nat.le_of_ble_eq_true rfl) rfl ?_
  refine J_aload_n hC dX0_takeFrom_30 1 rfl rfl ?_
  refine J_get (v := .ref (b 17)) hC wu_X0 rfl dX0_takeFrom_31 36 2 (by decide) wf_X0_18 rfl rfl ?_
  refine J_iconst (v := 0) hC dX0_takeFrom_34 rfl ?_
  refine J_aload_n hC dX0_takeFrom_35 0 rfl rfl ?_
  refine J_get (v := .ref (a 17)) hC wu_X0 rfl dX0_takeFrom_36 14 2 (by decide) wf_X0_18 rfl rfl ?_
  refine J_iconst (v := 0) hC dX0_takeFrom_39 rfl ?_
  refine J_bipush (v := 30) hC dX0_takeFrom_40 (by decide +kernel) ?_
  refine J_copyall (m := 30) (ws' := stW G a (ur (ur (ur S 10 (T 10)) 11 (T 11)) 12 (T 12)) ++ stW G b T) hC dX0_takeFrom_42 wl_X0_35 39 17 rfl rfl (by decide) (Nat.le_of_ble_eq_true rfl) (Nat.le_of_ble_eq_true rfl) rfl ?_
  refine J_aload_n hC dX0_takeFrom_45 1 rfl rfl ?_
  refine J_get (v := .ref (b 18)) hC wu_X0 rfl dX0_takeFrom_46 36 3 (by decide) wf_X0_21 rfl rfl ?_
  refine J_iconst (v := 0) hC dX0_takeFrom_49 rfl ?_
  refine J_aload_n hC dX0_takeFrom_50 0 rfl rfl ?_
  refine J_get (v := .ref (a 18)) hC wu_X0 rfl dX0_takeFrom_51 14 3 (by decide) wf_X0_21 rfl rfl ?_
  refine J_iconst (v := 0) hC dX0_takeFrom_54 rfl ?_
  refine J_bipush (v := 30) hC dX0_takeFrom_55 (by decide +kernel) ?_
  refine J_copyall (m := 30) (ws' := stW G a (ur (ur (ur (ur S 10 (T 10)) 11 (T 11)) 12 (T 12)) 13 (T 13)) ++ stW G b T) hC dX0_takeFrom_57 wl_X0_35 40 18 rfl rfl (by decide) (Nat.le_of_ble_eq_true rfl) (Nat.le_of_ble_eq_true rfl) rfl ?_
  refine J_aload_n hC dX0_takeFrom_60 1 rfl rfl ?_
  refine J_get (v := .ref (b 19)) hC wu_X0 rfl dX0_takeFrom_61 36 4 (by decide) wf_X0_24 rfl rfl ?_
  refine J_iconst (v := 0) hC dX0_takeFrom_64 rfl ?_
  refine J_aload_n hC dX0_takeFrom_65 0 rfl rfl ?_
  refine J_get (v := .ref (a 19)) hC wu_X0 rfl dX0_takeFrom_66 14 4 (by decide) wf_X0_24 rfl rfl ?_
  refine J_iconst (v := 0) hC dX0_takeFrom_69 rfl ?_
  refine J_bipush (v := 30) hC dX0_takeFrom_70 (by decide +kernel) ?_
  refine J_copyall (m := 30) (ws' := stW G a (ur (ur (ur (ur (ur S 10 (T 10)) 11 (T 11)) 12 (T 12)) 13 (T 13)) 14 (T 14)) ++ stW G b T) hC dX0_takeFrom_72 wl_X0_35 41 19 rfl rfl (by decide) (Nat.le_of_ble_eq_true rfl) (Nat.le_of_ble_eq_true rfl) rfl ?_
  refine J_aload_n hC dX0_takeFrom_75 0 rfl rfl ?_
  refine J_aload_n hC dX0_takeFrom_76 1 rfl rfl ?_
  refine J_get (v := .int (T 16 12)) hC wu_X0 rfl dX0_takeFrom_77 36 5 (by decide) wf_X0_27 rfl rfl ?_
  refine J_put (ws' := stW G a (us (ur (ur (ur (ur (ur S 10 (T 10)) 11 (T 11)) 12 (T 12)) 13 (T 13)) 14 (T 14)) 16 12 (T 16 12)) ++ stW G b T) hC wu_X0 rfl tyX0_ok nmX0 dX0_takeFrom_80 14 5 (by decide) wf_X0_27 rfl rfl (Nat.le_of_ble_eq_true rfl) rfl rfl rfl ?_
  refine J_vret hC hR dX0_takeFrom_83 () ?_ ?_ (by decide) (by decide)
  · trivial
  · rfl

set_option maxRecDepth 100000 in
set_option maxHeartbeats 4000000 in
theorem c_X4_takeFrom (l : Launch) (G : gT) (a b : Nat → Nat) (S : CT) (T : CT) : MV l yX4_takeFrom cX4_takeFrom 2 { frames := 1, cells := 0, slots := 0, locals := 32 } [.ref (a 20), .ref (b 20)] G (stW G a S ++ stW G b T) (fun (_ : Unit) => True) (fun _ => stW G a (us (ur S 15 (T 15)) 16 13 (T 16 13)) ++ stW G b T) := by
  refine jm_v (own := RX4) (by decide) rfl (Nat.le_of_ble_eq_true rfl) (fun x hl hC hR hN => ?_)
  subst hl
  refine J_aload_n hC dX4_takeFrom_0 1 rfl rfl ?_
  refine J_get (v := .ref (b 21)) hC wu_X4 rfl dX4_takeFrom_1 42 0 (by decide) wf_X4_9 rfl rfl ?_
  refine J_iconst (v := 0) hC dX4_takeFrom_4 rfl ?_
  refine J_aload_n hC dX4_takeFrom_5 0 rfl rfl ?_
  refine J_get (v := .ref (a 21)) hC wu_X4 rfl dX4_takeFrom_6 20 0 (by decide) wf_X4_9 rfl rfl ?_
  refine J_iconst (v := 0) hC dX4_takeFrom_9 rfl ?_
  refine J_bipush (v := 10) hC dX4_takeFrom_10 (by decide +kernel) ?_
  refine J_copyall (m := 10) (ws' := stW G a (ur S 15 (T 15)) ++ stW G b T) hC dX4_takeFrom_12 wl_X4_17 43 21 rfl rfl (by decide) (Nat.le_of_ble_eq_true rfl) (Nat.le_of_ble_eq_true rfl) rfl ?_
  refine J_aload_n hC dX4_takeFrom_15 0 rfl rfl ?_
  refine J_aload_n hC dX4_takeFrom_16 1 rfl rfl ?_
  refine J_get (v := .int (T 16 13)) hC wu_X4 rfl dX4_takeFrom_17 42 1 (by decide) wf_X4_13 rfl rfl ?_
  refine J_put (ws' := stW G a (us (ur S 15 (T 15)) 16 13 (T 16 13)) ++ stW G b T) hC wu_X4 rfl tyX4_ok nmX4 dX4_takeFrom_20 20 1 (by decide) wf_X4_13 rfl rfl (Nat.le_of_ble_eq_true rfl) rfl rfl rfl ?_
  refine J_vret hC hR dX4_takeFrom_23 () ?_ ?_ (by decide) (by decide)
  · trivial
  · rfl

set_option maxRecDepth 100000 in
set_option maxHeartbeats 4000000 in
theorem c_X8_takeFrom (l : Launch) (G : gT) (a b : Nat → Nat) (S : CT) (T : CT) : MV l yX8_takeFrom cX8_takeFrom 2 { frames := 2, cells := 0, slots := 0, locals := 53 } [.ref (a 0), .ref (b 0)] G (stW G a S ++ stW G b T) (fun (_ : Unit) => True) (fun _ => stW G a T ++ stW G b T) := by
  refine jm_v (own := RX8) (by decide) rfl (Nat.le_of_ble_eq_true rfl) (fun x hl hC hR hN => ?_)
  subst hl
  refine J_aload_n hC dX8_takeFrom_0 0 rfl rfl ?_
  refine J_get (v := .ref (a 1)) hC wu_X8 rfl dX8_takeFrom_1 0 0 (by decide) wf_X8_12 rfl rfl ?_
  refine J_aload_n hC dX8_takeFrom_4 1 rfl rfl ?_
  refine J_get (v := .ref (b 1)) hC wu_X8 rfl dX8_takeFrom_5 22 0 (by decide) wf_X8_12 rfl rfl ?_
  refine J_callVv hC dX8_takeFrom_8 wl_X8_84 yi_X9_takeFrom (c_X9_takeFrom _ G a b S T) rfl rfl 1 9 rfl rfl ⟨Nat.le_of_ble_eq_true rfl, Nat.le_of_ble_eq_true rfl⟩ (Nat.le_of_ble_eq_true rfl) (Nat.le_of_ble_eq_true rfl) (Nat.le_of_ble_eq_true rfl) (fun _ _ => ?_)
  refine J_aload_n hC dX8_takeFrom_11 0 rfl rfl ?_
  refine J_get (v := .ref (a 5)) hC wu_X8 rfl dX8_takeFrom_12 0 1 (by decide) wf_X8_21 rfl rfl ?_
  refine J_aload_n hC dX8_takeFrom_15 1 rfl rfl ?_
  refine J_get (v := .ref (b 5)) hC wu_X8 rfl dX8_takeFrom_16 22 1 (by decide) wf_X8_21 rfl rfl ?_
  refine J_callVv hC dX8_takeFrom_19 wl_X8_88 yi_X2_takeFrom (c_X2_takeFrom _ G a b (us (ur (ur (ur S 0 (T 0)) 1 (T 1)) 2 (T 2)) 16 9 (T 16 9)) T) rfl rfl 5 2 rfl rfl ⟨Nat.le_of_ble_eq_true rfl, Nat.le_of_ble_eq_true rfl⟩ (Nat.le_of_ble_eq_true rfl) (Nat.le_of_ble_eq_true rfl) (Nat.le_of_ble_eq_true rfl) (fun _ _ => ?_)
  refine J_aload_n hC dX8_takeFrom_22 0 rfl rfl ?_
  refine J_get (v := .ref (a 11)) hC wu_X8 rfl dX8_takeFrom_23 0 2 (by decide) wf_X8_28 rfl rfl ?_
  refine J_aload_n hC dX8_takeFrom_26 1 rfl rfl ?_
  refine J_get (v := .ref (b 11)) hC wu_X8 rfl dX8_takeFrom_27 22 2 (by decide) wf_X8_28 rfl rfl ?_
  refine J_callVv hC dX8_takeFrom_30 wl_X8_91 yi_X7_takeFrom (c_X7_takeFrom _ G a b (us (ur (ur (ur (ur (ur (us (ur (ur (ur S 0 (T 0)) 1 (T 1)) 2 (T 2)) 16 9 (T 16 9)) 3 (T 3)) 4 (T 4)) 5 (T 5)) 6 (T 6)) 7 (T 7)) 16 10 (T 16 10)) T) rfl rfl 11 7 rfl rfl ⟨Nat.le_of_ble_eq_true rfl, Nat.le_of_ble_eq_true rfl⟩ (Nat.le_of_ble_eq_true rfl) (Nat.le_of_ble_eq_true rfl) (Nat.le_of_ble_eq_true rfl) (fun _ _ => ?_)
  refine J_aload_n hC dX8_takeFrom_33 0 rfl rfl ?_
  refine J_get (v := .ref (a 14)) hC wu_X8 rfl dX8_takeFrom_34 0 3 (by decide) wf_X8_35 rfl rfl ?_
  refine J_aload_n hC dX8_takeFrom_37 1 rfl rfl ?_
  refine J_get (v := .ref (b 14)) hC wu_X8 rfl dX8_takeFrom_38 22 3 (by decide) wf_X8_35 rfl rfl ?_
  refine J_callVv hC dX8_takeFrom_41 wl_X8_94 yi_X0_takeFrom (c_X0_takeFrom _ G a b (us (ur (ur (us (ur (ur (ur (ur (ur (us (ur (ur (ur S 0 (T 0)) 1 (T 1)) 2 (T 2)) 16 9 (T 16 9)) 3 (T 3)) 4 (T 4)) 5 (T 5)) 6 (T 6)) 7 (T 7)) 16 10 (T 16 10)) 8 (T 8)) 9 (T 9)) 16 11 (T 16 11)) T) rfl rfl 14 0 rfl rfl ⟨Nat.le_of_ble_eq_true rfl, Nat.le_of_ble_eq_true rfl⟩ (Nat.le_of_ble_eq_true rfl) (Nat.le_of_ble_eq_true rfl) (Nat.le_of_ble_eq_true rfl) (fun _ _ => ?_)
  refine J_aload_n hC dX8_takeFrom_44 0 rfl rfl ?_
  refine J_get (v := .ref (a 20)) hC wu_X8 rfl dX8_takeFrom_45 0 4 (by decide) wf_X8_42 rfl rfl ?_
  refine J_aload_n hC dX8_takeFrom_48 1 rfl rfl ?_
  refine J_get (v := .ref (b 20)) hC wu_X8 rfl dX8_takeFrom_49 22 4 (by decide) wf_X8_42 rfl rfl ?_
  refine J_callVv hC dX8_takeFrom_52 wl_X8_97 yi_X4_takeFrom (c_X4_takeFrom _ G a b (us (ur (ur (ur (ur (ur (us (ur (ur (us (ur (ur (ur (ur (ur (us (ur (ur (ur S 0 (T 0)) 1 (T 1)) 2 (T 2)) 16 9 (T 16 9)) 3 (T 3)) 4 (T 4)) 5 (T 5)) 6 (T 6)) 7 (T 7)) 16 10 (T 16 10)) 8 (T 8)) 9 (T 9)) 16 11 (T 16 11)) 10 (T 10)) 11 (T 11)) 12 (T 12)) 13 (T 13)) 14 (T 14)) 16 12 (T 16 12)) T) rfl rfl 20 4 rfl rfl ⟨Nat.le_of_ble_eq_true rfl, Nat.le_of_ble_eq_true rfl⟩ (Nat.le_of_ble_eq_true rfl) (Nat.le_of_ble_eq_true rfl) (Nat.le_of_ble_eq_true rfl) (fun _ _ => ?_)
  refine J_aload_n hC dX8_takeFrom_55 0 rfl rfl ?_
  refine J_aload_n hC dX8_takeFrom_56 1 rfl rfl ?_
  refine J_get (v := .int (T 16 0)) hC wu_X8 rfl dX8_takeFrom_57 22 5 (by decide) wf_X8_46 rfl rfl ?_
  refine J_put (ws' := stW G a (us (us (ur (us (ur (ur (ur (ur (ur (us (ur (ur (us (ur (ur (ur (ur (ur (us (ur (ur (ur S 0 (T 0)) 1 (T 1)) 2 (T 2)) 16 9 (T 16 9)) 3 (T 3)) 4 (T 4)) 5 (T 5)) 6 (T 6)) 7 (T 7)) 16 10 (T 16 10)) 8 (T 8)) 9 (T 9)) 16 11 (T 16 11)) 10 (T 10)) 11 (T 11)) 12 (T 12)) 13 (T 13)) 14 (T 14)) 16 12 (T 16 12)) 15 (T 15)) 16 13 (T 16 13)) 16 0 (T 16 0)) ++ stW G b T) hC wu_X8 rfl tyX8_ok nmX8 dX8_takeFrom_60 0 5 (by decide) wf_X8_46 rfl rfl (Nat.le_of_ble_eq_true rfl) rfl rfl rfl ?_
  refine J_aload_n hC dX8_takeFrom_63 0 rfl rfl ?_
  refine J_aload_n hC dX8_takeFrom_64 1 rfl rfl ?_
  refine J_get (v := .int (T 16 1)) hC wu_X8 rfl dX8_takeFrom_65 22 6 (by decide) wf_X8_50 rfl rfl ?_
  refine J_put (ws' := stW G a (us (us (us (ur (us (ur (ur (ur (ur (ur (us (ur (ur (us (ur (ur (ur (ur (ur (us (ur (ur (ur S 0 (T 0)) 1 (T 1)) 2 (T 2)) 16 9 (T 16 9)) 3 (T 3)) 4 (T 4)) 5 (T 5)) 6 (T 6)) 7 (T 7)) 16 10 (T 16 10)) 8 (T 8)) 9 (T 9)) 16 11 (T 16 11)) 10 (T 10)) 11 (T 11)) 12 (T 12)) 13 (T 13)) 14 (T 14)) 16 12 (T 16 12)) 15 (T 15)) 16 13 (T 16 13)) 16 0 (T 16 0)) 16 1 (T 16 1)) ++ stW G b T) hC wu_X8 rfl tyX8_ok nmX8 dX8_takeFrom_68 0 6 (by decide) wf_X8_50 rfl rfl (Nat.le_of_ble_eq_true rfl) rfl rfl rfl ?_
  refine J_aload_n hC dX8_takeFrom_71 0 rfl rfl ?_
  refine J_aload_n hC dX8_takeFrom_72 1 rfl rfl ?_
  refine J_get (v := .int (T 16 2)) hC wu_X8 rfl dX8_takeFrom_73 22 7 (by decide) wf_X8_53 rfl rfl ?_
  refine J_put (ws' := stW G a (us (us (us (us (ur (us (ur (ur (ur (ur (ur (us (ur (ur (us (ur (ur (ur (ur (ur (us (ur (ur (ur S 0 (T 0)) 1 (T 1)) 2 (T 2)) 16 9 (T 16 9)) 3 (T 3)) 4 (T 4)) 5 (T 5)) 6 (T 6)) 7 (T 7)) 16 10 (T 16 10)) 8 (T 8)) 9 (T 9)) 16 11 (T 16 11)) 10 (T 10)) 11 (T 11)) 12 (T 12)) 13 (T 13)) 14 (T 14)) 16 12 (T 16 12)) 15 (T 15)) 16 13 (T 16 13)) 16 0 (T 16 0)) 16 1 (T 16 1)) 16 2 (T 16 2)) ++ stW G b T) hC wu_X8 rfl tyX8_ok nmX8 dX8_takeFrom_76 0 7 (by decide) wf_X8_53 rfl rfl (Nat.le_of_ble_eq_true rfl) rfl rfl rfl ?_
  refine J_aload_n hC dX8_takeFrom_79 0 rfl rfl ?_
  refine J_aload_n hC dX8_takeFrom_80 1 rfl rfl ?_
  refine J_get (v := .int (T 16 3)) hC wu_X8 rfl dX8_takeFrom_81 22 8 (by decide) wf_X8_56 rfl rfl ?_
  refine J_put (ws' := stW G a (us (us (us (us (us (ur (us (ur (ur (ur (ur (ur (us (ur (ur (us (ur (ur (ur (ur (ur (us (ur (ur (ur S 0 (T 0)) 1 (T 1)) 2 (T 2)) 16 9 (T 16 9)) 3 (T 3)) 4 (T 4)) 5 (T 5)) 6 (T 6)) 7 (T 7)) 16 10 (T 16 10)) 8 (T 8)) 9 (T 9)) 16 11 (T 16 11)) 10 (T 10)) 11 (T 11)) 12 (T 12)) 13 (T 13)) 14 (T 14)) 16 12 (T 16 12)) 15 (T 15)) 16 13 (T 16 13)) 16 0 (T 16 0)) 16 1 (T 16 1)) 16 2 (T 16 2)) 16 3 (T 16 3)) ++ stW G b T) hC wu_X8 rfl tyX8_ok nmX8 dX8_takeFrom_84 0 8 (by decide) wf_X8_56 rfl rfl (Nat.le_of_ble_eq_true rfl) rfl rfl rfl ?_
  refine J_aload_n hC dX8_takeFrom_87 0 rfl rfl ?_
  refine J_aload_n hC dX8_takeFrom_88 1 rfl rfl ?_
  refine J_get (v := .int (T 16 4)) hC wu_X8 rfl dX8_takeFrom_89 22 9 (by decide) wf_X8_59 rfl rfl ?_
  refine J_put (ws' := stW G a (us (us (us (us (us (us (ur (us (ur (ur (ur (ur (ur (us (ur (ur (us (ur (ur (ur (ur (ur (us (ur (ur (ur S 0 (T 0)) 1 (T 1)) 2 (T 2)) 16 9 (T 16 9)) 3 (T 3)) 4 (T 4)) 5 (T 5)) 6 (T 6)) 7 (T 7)) 16 10 (T 16 10)) 8 (T 8)) 9 (T 9)) 16 11 (T 16 11)) 10 (T 10)) 11 (T 11)) 12 (T 12)) 13 (T 13)) 14 (T 14)) 16 12 (T 16 12)) 15 (T 15)) 16 13 (T 16 13)) 16 0 (T 16 0)) 16 1 (T 16 1)) 16 2 (T 16 2)) 16 3 (T 16 3)) 16 4 (T 16 4)) ++ stW G b T) hC wu_X8 rfl tyX8_ok nmX8 dX8_takeFrom_92 0 9 (by decide) wf_X8_59 rfl rfl (Nat.le_of_ble_eq_true rfl) rfl rfl rfl ?_
  refine J_aload_n hC dX8_takeFrom_95 0 rfl rfl ?_
  refine J_aload_n hC dX8_takeFrom_96 1 rfl rfl ?_
  refine J_get (v := .int (T 16 5)) hC wu_X8 rfl dX8_takeFrom_97 22 10 (by decide) wf_X8_62 rfl rfl ?_
  refine J_put (ws' := stW G a (us (us (us (us (us (us (us (ur (us (ur (ur (ur (ur (ur (us (ur (ur (us (ur (ur (ur (ur (ur (us (ur (ur (ur S 0 (T 0)) 1 (T 1)) 2 (T 2)) 16 9 (T 16 9)) 3 (T 3)) 4 (T 4)) 5 (T 5)) 6 (T 6)) 7 (T 7)) 16 10 (T 16 10)) 8 (T 8)) 9 (T 9)) 16 11 (T 16 11)) 10 (T 10)) 11 (T 11)) 12 (T 12)) 13 (T 13)) 14 (T 14)) 16 12 (T 16 12)) 15 (T 15)) 16 13 (T 16 13)) 16 0 (T 16 0)) 16 1 (T 16 1)) 16 2 (T 16 2)) 16 3 (T 16 3)) 16 4 (T 16 4)) 16 5 (T 16 5)) ++ stW G b T) hC wu_X8 rfl tyX8_ok nmX8 dX8_takeFrom_100 0 10 (by decide) wf_X8_62 rfl rfl (Nat.le_of_ble_eq_true rfl) rfl rfl rfl ?_
  refine J_aload_n hC dX8_takeFrom_103 0 rfl rfl ?_
  refine J_aload_n hC dX8_takeFrom_104 1 rfl rfl ?_
  refine J_get (v := .int (T 16 6)) hC wu_X8 rfl dX8_takeFrom_105 22 11 (by decide) wf_X8_65 rfl rfl ?_
  refine J_put (ws' := stW G a (us (us (us (us (us (us (us (us (ur (us (ur (ur (ur (ur (ur (us (ur (ur (us (ur (ur (ur (ur (ur (us (ur (ur (ur S 0 (T 0)) 1 (T 1)) 2 (T 2)) 16 9 (T 16 9)) 3 (T 3)) 4 (T 4)) 5 (T 5)) 6 (T 6)) 7 (T 7)) 16 10 (T 16 10)) 8 (T 8)) 9 (T 9)) 16 11 (T 16 11)) 10 (T 10)) 11 (T 11)) 12 (T 12)) 13 (T 13)) 14 (T 14)) 16 12 (T 16 12)) 15 (T 15)) 16 13 (T 16 13)) 16 0 (T 16 0)) 16 1 (T 16 1)) 16 2 (T 16 2)) 16 3 (T 16 3)) 16 4 (T 16 4)) 16 5 (T 16 5)) 16 6 (T 16 6)) ++ stW G b T) hC wu_X8 rfl tyX8_ok nmX8 dX8_takeFrom_108 0 11 (by decide) wf_X8_65 rfl rfl (Nat.le_of_ble_eq_true rfl) rfl rfl rfl ?_
  refine J_aload_n hC dX8_takeFrom_111 0 rfl rfl ?_
  refine J_aload_n hC dX8_takeFrom_112 1 rfl rfl ?_
  refine J_get (v := .int (T 16 7)) hC wu_X8 rfl dX8_takeFrom_113 22 12 (by decide) wf_X8_68 rfl rfl ?_
  refine J_put (ws' := stW G a (us (us (us (us (us (us (us (us (us (ur (us (ur (ur (ur (ur (ur (us (ur (ur (us (ur (ur (ur (ur (ur (us (ur (ur (ur S 0 (T 0)) 1 (T 1)) 2 (T 2)) 16 9 (T 16 9)) 3 (T 3)) 4 (T 4)) 5 (T 5)) 6 (T 6)) 7 (T 7)) 16 10 (T 16 10)) 8 (T 8)) 9 (T 9)) 16 11 (T 16 11)) 10 (T 10)) 11 (T 11)) 12 (T 12)) 13 (T 13)) 14 (T 14)) 16 12 (T 16 12)) 15 (T 15)) 16 13 (T 16 13)) 16 0 (T 16 0)) 16 1 (T 16 1)) 16 2 (T 16 2)) 16 3 (T 16 3)) 16 4 (T 16 4)) 16 5 (T 16 5)) 16 6 (T 16 6)) 16 7 (T 16 7)) ++ stW G b T) hC wu_X8 rfl tyX8_ok nmX8 dX8_takeFrom_116 0 12 (by decide) wf_X8_68 rfl rfl (Nat.le_of_ble_eq_true rfl) rfl rfl rfl ?_
  refine J_aload_n hC dX8_takeFrom_119 0 rfl rfl ?_
  refine J_aload_n hC dX8_takeFrom_120 1 rfl rfl ?_
  refine J_get (v := .int (T 16 8)) hC wu_X8 rfl dX8_takeFrom_121 22 13 (by decide) wf_X8_71 rfl rfl ?_
  refine J_put (ws' := stW G a (us (us (us (us (us (us (us (us (us (us (ur (us (ur (ur (ur (ur (ur (us (ur (ur (us (ur (ur (ur (ur (ur (us (ur (ur (ur S 0 (T 0)) 1 (T 1)) 2 (T 2)) 16 9 (T 16 9)) 3 (T 3)) 4 (T 4)) 5 (T 5)) 6 (T 6)) 7 (T 7)) 16 10 (T 16 10)) 8 (T 8)) 9 (T 9)) 16 11 (T 16 11)) 10 (T 10)) 11 (T 11)) 12 (T 12)) 13 (T 13)) 14 (T 14)) 16 12 (T 16 12)) 15 (T 15)) 16 13 (T 16 13)) 16 0 (T 16 0)) 16 1 (T 16 1)) 16 2 (T 16 2)) 16 3 (T 16 3)) 16 4 (T 16 4)) 16 5 (T 16 5)) 16 6 (T 16 6)) 16 7 (T 16 7)) 16 8 (T 16 8)) ++ stW G b T) hC wu_X8 rfl tyX8_ok nmX8 dX8_takeFrom_124 0 13 (by decide) wf_X8_71 rfl rfl (Nat.le_of_ble_eq_true rfl) rfl rfl rfl ?_
  refine J_vret hC hR dX8_takeFrom_127 () ?_ ?_ (by decide) (by decide)
  · trivial
  · rfl


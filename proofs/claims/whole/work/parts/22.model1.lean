set_option maxRecDepth 100000 in
set_option maxHeartbeats 4000000 in
theorem c_X11_ofVillage (l : Launch) (G : gT) (ws0 : va_W) (v : Nat) : MI l yX11_ofVillage cX11_ofVillage 1 (some .int) { frames := 0, cells := 0, slots := 0, locals := 0 } [.int (nI v)] G (ws0) (fun r (_ : Unit) => r = nI (24 + 3 * v)) (fun _ => ws0) := by
  refine jm_i (own := RX11) (by decide) rfl (Nat.le_of_ble_eq_true rfl) (fun x hl hC hR hN => ?_)
  subst hl
  refine J_bipush (v := 24) hC dX11_ofVillage_0 (by decide +kernel) ?_
  refine J_iconst (v := 3) hC dX11_ofVillage_2 rfl ?_
  refine J_iload_n hC dX11_ofVillage_3 0 rfl rfl ?_
  refine J_imul (v := nI (3 * v)) hC dX11_ofVillage_4 (pk_mul 3 v) ?_
  refine J_iadd (v := nI (24 + 3 * v)) hC dX11_ofVillage_5 ((nI_add 24 (3 * v)).trans (congrArg nI (by omega))) ?_
  refine J_iret hC hR dX11_ofVillage_6 rfl () ?_ ?_ (by decide) (by decide)
  · rfl
  · rfl

set_option maxRecDepth 100000 in
set_option maxHeartbeats 4000000 in
theorem c_X11_ofFair (l : Launch) (G : gT) (ws0 : va_W) (v : Nat) : MI l yX11_ofFair cX11_ofFair 1 (some .int) { frames := 0, cells := 0, slots := 0, locals := 0 } [.int (nI v)] G (ws0) (fun r (_ : Unit) => r = nI (42 + 5 * v)) (fun _ => ws0) := by
  refine jm_i (own := RX11) (by decide) rfl (Nat.le_of_ble_eq_true rfl) (fun x hl hC hR hN => ?_)
  subst hl
  refine J_bipush (v := 42) hC dX11_ofFair_0 (by decide +kernel) ?_
  refine J_iconst (v := 5) hC dX11_ofFair_2 rfl ?_
  refine J_iload_n hC dX11_ofFair_3 0 rfl rfl ?_
  refine J_imul (v := nI (5 * v)) hC dX11_ofFair_4 (pk_mul 5 v) ?_
  refine J_iadd (v := nI (42 + 5 * v)) hC dX11_ofFair_5 ((nI_add 42 (5 * v)).trans (congrArg nI (by omega))) ?_
  refine J_iret hC hR dX11_ofFair_6 rfl () ?_ ?_ (by decide) (by decide)
  · rfl
  · rfl

set_option maxRecDepth 100000 in
set_option maxHeartbeats 4000000 in
theorem c_X11_ofForecast (l : Launch) (G : gT) (ws0 : va_W) (v : Nat) : MI l yX11_ofForecast cX11_ofForecast 1 (some .int) { frames := 0, cells := 0, slots := 0, locals := 0 } [.int (nI v)] G (ws0) (fun r (_ : Unit) => r = nI (72 + 5 * v)) (fun _ => ws0) := by
  refine jm_i (own := RX11) (by decide) rfl (Nat.le_of_ble_eq_true rfl) (fun x hl hC hR hN => ?_)
  subst hl
  refine J_bipush (v := 72) hC dX11_ofForecast_0 (by decide +kernel) ?_
  refine J_iconst (v := 5) hC dX11_ofForecast_2 rfl ?_
  refine J_iload_n hC dX11_ofForecast_3 0 rfl rfl ?_
  refine J_imul (v := nI (5 * v)) hC dX11_ofForecast_4 (pk_mul 5 v) ?_
  refine J_iadd (v := nI (72 + 5 * v)) hC dX11_ofForecast_5 ((nI_add 72 (5 * v)).trans (congrArg nI (by omega))) ?_
  refine J_iret hC hR dX11_ofForecast_6 rfl () ?_ ?_ (by decide) (by decide)
  · rfl
  · rfl

set_option maxRecDepth 100000 in
set_option maxHeartbeats 4000000 in
theorem c_X11_ofRegret (l : Launch) (G : gT) (ws0 : va_W) (v : Nat) : MI l yX11_ofRegret cX11_ofRegret 1 (some .int) { frames := 0, cells := 0, slots := 0, locals := 0 } [.int (nI v)] G (ws0) (fun r (_ : Unit) => r = nI (222 + 2 * v)) (fun _ => ws0) := by
  refine jm_i (own := RX11) (by decide) rfl (Nat.le_of_ble_eq_true rfl) (fun x hl hC hR hN => ?_)
  subst hl
  refine J_sipush (v := 222) hC dX11_ofRegret_0 (by decide +kernel) ?_
  refine J_iconst (v := 2) hC dX11_ofRegret_3 rfl ?_
  refine J_iload_n hC dX11_ofRegret_4 0 rfl rfl ?_
  refine J_imul (v := nI (2 * v)) hC dX11_ofRegret_5 (pk_mul 2 v) ?_
  refine J_iadd (v := nI (222 + 2 * v)) hC dX11_ofRegret_6 ((nI_add 222 (2 * v)).trans (congrArg nI (by omega))) ?_
  refine J_iret hC hR dX11_ofRegret_7 rfl () ?_ ?_ (by decide) (by decide)
  · rfl
  · rfl

set_option maxRecDepth 100000 in
set_option maxHeartbeats 4000000 in
theorem c_X11_isBetween (l : Launch) (G : gT) (ws0 : va_W) (v : Int32) (lo : Int32) (hi : Int32) : MI l yX11_isBetween cX11_isBetween 3 (some .boolean) { frames := 0, cells := 0, slots := 0, locals := 0 } [.int v, .int lo, .int hi] G (ws0) (fun r (_ : Unit) => (r = 1 ∧ ¬ v < lo ∧ ¬ hi < v) ∨ (r = 0 ∧ ¬ (¬ v < lo ∧ ¬ hi < v))) (fun _ => ws0) := by
  refine jm_i (own := RX11) (by decide) rfl (Nat.le_of_ble_eq_true rfl) (fun x hl hC hR hN => ?_)
  subst hl
  refine J_iload_n hC dX11_isBetween_0 0 rfl rfl ?_
  refine J_iload_n hC dX11_isBetween_1 1 rfl rfl ?_
  refine J_ic_lt (tgt := 14) hC dX11_isBetween_2 (by decide) (fun (c_2 : v < lo) => ?_) (fun (c_2 : ¬ v < lo) => ?_)
  · refine J_iconst (v := 0) hC dX11_isBetween_14 rfl ?_
    refine J_iret hC hR dX11_isBetween_15 rfl () ?_ ?_ (by decide) (by decide)
    · simp_all
    · rfl
  · refine J_iload_n hC dX11_isBetween_5 0 rfl rfl ?_
    refine J_iload_n hC dX11_isBetween_6 2 rfl rfl ?_
    refine J_ic_gt (tgt := 14) hC dX11_isBetween_7 (by decide) (fun (c_7 : hi < v) => ?_) (fun (c_7 : ¬ hi < v) => ?_)
    · refine J_iconst (v := 0) hC dX11_isBetween_14 rfl ?_
      refine J_iret hC hR dX11_isBetween_15 rfl () ?_ ?_ (by decide) (by decide)
      · simp_all
      · rfl
    · refine J_iconst (v := 1) hC dX11_isBetween_10 rfl ?_
      refine J_goto (tgt := 15) hC dX11_isBetween_11 (by decide) ?_
      refine J_iret hC hR dX11_isBetween_15 rfl () ?_ ?_ (by decide) (by decide)
      · simp_all
      · rfl

set_option maxRecDepth 100000 in
set_option maxHeartbeats 4000000 in
theorem c_X11_isLetter (l : Launch) (G : gT) (ws0 : va_W) (v : Int32) : MI l yX11_isLetter cX11_isLetter 1 (some .boolean) { frames := 1, cells := 0, slots := 0, locals := 22 } [.int v] G (ws0) (fun r (_ : Unit) => (r = 1 ∧ ¬ v < 97 ∧ ¬ 122 < v) ∨ (r = 0 ∧ ¬ (¬ v < 97 ∧ ¬ 122 < v))) (fun _ => ws0) := by
  refine jm_i (own := RX11) (by decide) rfl (Nat.le_of_ble_eq_true rfl) (fun x hl hC hR hN => ?_)
  subst hl
  refine J_iload_n hC dX11_isLetter_0 0 rfl rfl ?_
  refine J_bipush (v := 97) hC dX11_isLetter_1 (by decide +kernel) ?_
  refine J_bipush (v := 122) hC dX11_isLetter_3 (by decide +kernel) ?_
  refine J_callSi hC dX11_isLetter_5 wl_X11_156 wi_X11 yi_X11_isBetween (c_X11_isBetween _ G ws0 v 97 122) rfl rfl ⟨Nat.le_of_ble_eq_true rfl, Nat.le_of_ble_eq_true rfl⟩ (Nat.le_of_ble_eq_true rfl) (Nat.le_of_ble_eq_true rfl) (Nat.le_of_ble_eq_true rfl) (fun r u h_5 => ?_)
  rcases h_5 with ⟨rfl, c_5⟩ | ⟨rfl, c_5⟩
  · refine J_iret hC hR dX11_isLetter_8 rfl () ?_ ?_ (by decide) (by decide)
    · exact Or.inl ⟨rfl, c_5⟩
    · rfl
  · refine J_iret hC hR dX11_isLetter_8 rfl () ?_ ?_ (by decide) (by decide)
    · exact Or.inr ⟨rfl, c_5⟩
    · rfl

set_option maxRecDepth 100000 in
set_option maxHeartbeats 4000000 in
theorem c_X11_seedBehind (l : Launch) (G : gT) (ws0 : va_W) (f : Int32) : MI l yX11_seedBehind cX11_seedBehind 1 (some .int) { frames := 0, cells := 0, slots := 0, locals := 0 } [.int f] G (ws0) (fun r (_ : Unit) => r = s_seed f) (fun _ => ws0) := by
  refine jm_i (own := RX11) (by decide) rfl (Nat.le_of_ble_eq_true rfl) (fun x hl hC hR hN => ?_)
  subst hl
  refine J_bipush (v := 29) hC dX11_seedBehind_0 (by decide +kernel) ?_
  refine J_iload_n hC dX11_seedBehind_2 0 rfl rfl ?_
  refine J_imul (v := 29 * f) hC dX11_seedBehind_3 rfl ?_
  refine J_bipush (v := 11) hC dX11_seedBehind_4 (by decide +kernel) ?_
  refine J_iadd (v := (29 * f) + 11) hC dX11_seedBehind_6 rfl ?_
  refine J_sipush (v := 1024) hC dX11_seedBehind_7 (by decide +kernel) ?_
  refine J_irem (v := imod ((29 * f) + 11) 1024) hC dX11_seedBehind_10 (by decide) rfl ?_
  refine J_iret hC hR dX11_seedBehind_11 rfl () ?_ ?_ (by decide) (by decide)
  · rfl
  · rfl

set_option maxRecDepth 100000 in
set_option maxHeartbeats 4000000 in
theorem c_X11_find (l : Launch) (G : gT) (b : Nat) (g : RT) (bc : Nat) (v : Int32) (d : Int32) (hbc : g 8 = nI bc) (bbc : bc ≤ 30) : MI l yX11_find cX11_find 4 (some .int) { frames := 1, cells := 0, slots := 0, locals := 20 } [.ref (b), .int v, .int d] G (gW G b g) (fun r (_ : Unit) => r = m_find g v d bc) (fun _ => gW G b g) := by
  refine jm_i (own := RX11) (by decide) rfl (Nat.le_of_ble_eq_true rfl) (fun x hl hC hR hN => ?_)
  subst hl
  have key : ∀ fuel : Nat, (∀ (i : Nat), (i ≤ bc) → (m_find g v d bc = fnd (m_bkp g v d) i (bc - i)) → bc - i < fuel → J x G (gW G b g) 0 0 [(0, .ref b), (1, .int v), (2, .int d), (3, .int (nI i))] [] 2) := by
    intro fuel
    induction fuel with
    | zero => exact fun _ _ _ h => absurd h (Nat.not_lt_zero _)
    | succ fuel ih =>
      intro i hi hI hmu
      refine J_iload_n hC dX11_find_2 3 rfl rfl ?_
      refine J_aload_n hC dX11_find_3 0 rfl rfl ?_
      refine J_bipush (v := 8) hC dX11_find_4 (by decide +kernel) ?_
      refine J_iald (i := 8) (v := g 8) hC dX11_find_6 0 rfl (by omega) (by decide) rfl ?_
      refine J_topi hbc ?_
      refine J_ic_geN (a := i) (b := bc) (tgt := 42) hC dX11_find_7 (by decide) (by omega) (by omega) (fun (c_7 : bc ≤ i) => ?_) (fun (c_7 : i < bc) => ?_)
      · refine J_iconst (v := (-1)) hC dX11_find_42 rfl ?_
        refine J_iret hC hR dX11_find_43 rfl () ?_ ?_ (by decide) (by decide)
        · exact (hI.trans (fnd_done c_7)).symm
        · rfl
      · refine J_aload_n hC dX11_find_10 0 rfl rfl ?_
        refine J_iload_n hC dX11_find_11 3 rfl rfl ?_
        refine J_callSi hC dX11_find_12 wl_X11_69 wi_X11 yi_X11_ofForecast (c_X11_ofForecast _ G (gW G b g) i) rfl rfl ⟨Nat.le_of_ble_eq_true rfl, Nat.le_of_ble_eq_true rfl⟩ (Nat.le_of_ble_eq_true rfl) (Nat.le_of_ble_eq_true rfl) (Nat.le_of_ble_eq_true rfl) (fun r u h_12 => ?_)
        subst h_12
        refine J_iconst (v := 0) hC dX11_find_15 rfl ?_
        refine J_iadd (v := nI (72 + 5 * i)) hC dX11_find_16 (Int32.add_zero _) ?_
        refine J_iald (i := 72 + 5 * i) (v := g (72 + 5 * i)) hC dX11_find_17 0 rfl (by omega) (by decide) rfl ?_
        refine J_iload_n hC dX11_find_18 1 rfl rfl ?_
        refine J_ic_ne (tgt := 36) hC dX11_find_19 (by decide) (fun (c_19 : ¬ (g (72 + 5 * i)) = v) => ?_) (fun (c_19 : (g (72 + 5 * i)) = v) => ?_)
        · refine J_iinc hC [(3, .int (nI (i + 1))), (0, .ref b), (1, .int v), (2, .int d)] dX11_find_36 3 rfl (nI_inc _) (by decide) rfl ?_
          refine J_goto (tgt := 2) hC dX11_find_39 (by decide) ?_
          refine J_lv (lv' := [(0, .ref b), (1, .int v), (2, .int d), (3, .int (nI (i + 1)))]) [1, 2, 3, 0] rfl ?_
          exact ih (i + 1) (by omega) (hI.trans (fnd_step c_7 (by simp [m_bkp, c_7, c_19]))) (by omega)
        · refine J_aload_n hC dX11_find_22 0 rfl rfl ?_
          refine J_iload_n hC dX11_find_23 3 rfl rfl ?_
          refine J_callSi hC dX11_find_24 wl_X11_69 wi_X11 yi_X11_ofForecast (c_X11_ofForecast _ G (gW G b g) i) rfl rfl ⟨Nat.le_of_ble_eq_true rfl, Nat.le_of_ble_eq_true rfl⟩ (Nat.le_of_ble_eq_true rfl) (Nat.le_of_ble_eq_true rfl) (Nat.le_of_ble_eq_true rfl) (fun r u h_24 => ?_)
          subst h_24
          refine J_iconst (v := 1) hC dX11_find_27 rfl ?_
          refine J_iadd (v := nI (73 + 5 * i)) hC dX11_find_28 ((nI_add (72 + 5 * i) 1).trans (congrArg nI (by omega))) ?_
          refine J_iald (i := 73 + 5 * i) (v := g (73 + 5 * i)) hC dX11_find_29 0 rfl (by omega) (by decide) rfl ?_
          refine J_iload_n hC dX11_find_30 2 rfl rfl ?_
          refine J_ic_ne (tgt := 36) hC dX11_find_31 (by decide) (fun (c_31 : ¬ (g (73 + 5 * i)) = d) => ?_) (fun (c_31 : (g (73 + 5 * i)) = d) => ?_)
          · refine J_iinc hC [(3, .int (nI (i + 1))), (0, .ref b), (1, .int v), (2, .int d)] dX11_find_36 3 rfl (nI_inc _) (by decide) rfl ?_
            refine J_goto (tgt := 2) hC dX11_find_39 (by decide) ?_
            refine J_lv (lv' := [(0, .ref b), (1, .int v), (2, .int d), (3, .int (nI (i + 1)))]) [1, 2, 3, 0] rfl ?_
            exact ih (i + 1) (by omega) (hI.trans (fnd_step c_7 (by simp [m_bkp, c_7, c_19, c_31]))) (by omega)
          · refine J_iload_n hC dX11_find_34 3 rfl rfl ?_
            refine J_iret hC hR dX11_find_35 rfl () ?_ ?_ (by decide) (by decide)
            · exact (hI.trans (fnd_hit c_7 (by simp [m_bkp, c_7, c_19, c_31]))).symm
            · rfl
  refine J_iconst (v := 0) hC dX11_find_0 rfl ?_
  refine J_istore_n hC [(3, .int 0), (0, .ref b), (1, .int v), (2, .int d)] dX11_find_1 rfl (by decide) rfl ?_
  refine J_lv (lv' := [(0, .ref b), (1, .int v), (2, .int d), (3, .int 0)]) [1, 2, 3, 0] rfl ?_
  exact (key _) 0 (by omega) (rfl) (Nat.lt_succ_self _)

set_option maxRecDepth 100000 in
set_option maxHeartbeats 4000000 in
theorem c_X11_whyNotPrint (l : Launch) (G : gT) (b : Nat) (g : RT) (bc : Nat) (v : Int32) (d : Int32) (hbc : g 8 = nI bc) (bbc : bc ≤ 30) : MI l yX11_whyNotPrint cX11_whyNotPrint 3 (some .int) { frames := 2, cells := 0, slots := 0, locals := 43 } [.ref (b), .int v, .int d] G (gW G b g) (fun r (_ : Unit) => r = m_why g v d bc) (fun _ => gW G b g) := by
  refine jm_i (own := RX11) (by decide) rfl (Nat.le_of_ble_eq_true rfl) (fun x hl hC hR hN => ?_)
  subst hl
  refine J_iload_n hC dX11_whyNotPrint_0 2 rfl rfl ?_
  refine J_aload_n hC dX11_whyNotPrint_1 0 rfl rfl ?_
  refine J_iconst (v := 5) hC dX11_whyNotPrint_2 rfl ?_
  refine J_iald (i := 5) (v := g 5) hC dX11_whyNotPrint_3 0 rfl (by omega) (by decide) rfl ?_
  refine J_ic_le (tgt := 17) hC dX11_whyNotPrint_4 (by decide) (fun (c_4 : d ≤ (g 5)) => ?_) (fun (c_4 : ¬ d ≤ (g 5)) => ?_)
  · refine J_iconst (v := 1) hC dX11_whyNotPrint_17 rfl ?_
    refine J_iret hC hR dX11_whyNotPrint_18 rfl () ?_ ?_ (by decide) (by decide)
    · rw [m_why, if_pos c_4]
    · rfl
  · refine J_iload_n hC dX11_whyNotPrint_7 2 rfl rfl ?_
    refine J_aload_n hC dX11_whyNotPrint_8 0 rfl rfl ?_
    refine J_iconst (v := 5) hC dX11_whyNotPrint_9 rfl ?_
    refine J_iald (i := 5) (v := g 5) hC dX11_whyNotPrint_10 0 rfl (by omega) (by decide) rfl ?_
    refine J_bipush (v := 30) hC dX11_whyNotPrint_11 (by decide +kernel) ?_
    refine J_iadd (v := (g 5) + 30) hC dX11_whyNotPrint_13 rfl ?_
    refine J_ic_le (tgt := 19) hC dX11_whyNotPrint_14 (by decide) (fun (c_14 : d ≤ ((g 5) + 30)) => ?_) (fun (c_14 : ¬ d ≤ ((g 5) + 30)) => ?_)
    · refine J_aload_n hC dX11_whyNotPrint_19 0 rfl rfl ?_
      refine J_iload_n hC dX11_whyNotPrint_20 1 rfl rfl ?_
      refine J_iload_n hC dX11_whyNotPrint_21 2 rfl rfl ?_
      refine J_callSi hC dX11_whyNotPrint_22 wl_X11_73 wi_X11 yi_X11_find (c_X11_find _ G b g bc v d (hbc) (by omega)) rfl rfl ⟨Nat.le_of_ble_eq_true rfl, Nat.le_of_ble_eq_true rfl⟩ (Nat.le_of_ble_eq_true rfl) (Nat.le_of_ble_eq_true rfl) (Nat.le_of_ble_eq_true rfl) (fun r u h_22 => ?_)
      subst h_22
      rcases m_find_cases g v d bc with p_22 | ⟨k_22, hk_22, p_22, -, -⟩
      · refine J_topi p_22 ?_
        refine J_iconst (v := (-1)) hC dX11_whyNotPrint_25 rfl ?_
        refine J_ic_eq (tgt := 31) hC dX11_whyNotPrint_26 (by decide) (fun _ => ?_) (fun c => absurd (by decide) c)
        refine J_aload_n hC dX11_whyNotPrint_31 0 rfl rfl ?_
        refine J_bipush (v := 8) hC dX11_whyNotPrint_32 (by decide +kernel) ?_
        refine J_iald (i := 8) (v := g 8) hC dX11_whyNotPrint_34 0 rfl (by omega) (by decide) rfl ?_
        refine J_topi hbc ?_
        refine J_bipush (v := 30) hC dX11_whyNotPrint_35 (by decide +kernel) ?_
        refine J_ic_neN (a := bc) (b := 30) (tgt := 44) hC dX11_whyNotPrint_37 (by decide) (by omega) (by omega) (fun (c_37 : ¬ bc = 30) => ?_) (fun (c_37 : bc = 30) => ?_)
        · refine J_iconst (v := 0) hC dX11_whyNotPrint_44 rfl ?_
          refine J_iret hC hR dX11_whyNotPrint_45 rfl () ?_ ?_ (by decide) (by decide)
          · rw [m_why, if_neg c_4, if_pos c_14, if_pos p_22, if_neg c_37]
          · rfl
        · refine J_iconst (v := 3) hC dX11_whyNotPrint_40 rfl ?_
          refine J_goto (tgt := 45) hC dX11_whyNotPrint_41 (by decide) ?_
          refine J_iret hC hR dX11_whyNotPrint_45 rfl () ?_ ?_ (by decide) (by decide)
          · rw [m_why, if_neg c_4, if_pos c_14, if_pos p_22, if_pos c_37]
          · rfl
      · refine J_topi p_22 ?_
        refine J_iconst (v := (-1)) hC dX11_whyNotPrint_25 rfl ?_
        refine J_ic_eq (tgt := 31) hC dX11_whyNotPrint_26 (by decide) (fun c => absurd c (nI_ne_m1 (by omega))) (fun _ => ?_)
        refine J_iconst (v := 2) hC dX11_whyNotPrint_29 rfl ?_
        refine J_iret hC hR dX11_whyNotPrint_30 rfl () ?_ ?_ (by decide) (by decide)
        · rw [m_why, if_neg c_4, if_pos c_14, if_neg (by rw [p_22]; exact nI_ne_m1 (by omega))]
        · rfl
    · refine J_iconst (v := 1) hC dX11_whyNotPrint_17 rfl ?_
      refine J_iret hC hR dX11_whyNotPrint_18 rfl () ?_ ?_ (by decide) (by decide)
      · rw [m_why, if_neg c_4, if_neg c_14]
      · rfl

set_option maxRecDepth 100000 in
set_option maxHeartbeats 4000000 in
theorem c_X11_prints (l : Launch) (G : gT) (b : Nat) (g : RT) (bc : Nat) (v : Int32) (d : Int32) (w : Int32) (hbc : g 8 = nI bc) (bbc : bc ≤ 29) : MI l yX11_prints cX11_prints 5 (some .int) { frames := 1, cells := 0, slots := 0, locals := 20 } [.ref (b), .int v, .int d, .int w] G (gW G b g) (fun r (_ : Unit) => r = nI (bc / 4)) (fun _ => gW G b (m_prints g v d w bc)) := by
  refine jm_i (own := RX11) (by decide) rfl (Nat.le_of_ble_eq_true rfl) (fun x hl hC hR hN => ?_)
  subst hl
  refine J_aload_n hC dX11_prints_0 0 rfl rfl ?_
  refine J_bipush (v := 8) hC dX11_prints_1 (by decide +kernel) ?_
  refine J_iald (i := 8) (v := g 8) hC dX11_prints_3 0 rfl (by omega) (by decide) rfl ?_
  refine J_topi hbc ?_
  refine J_callSi hC dX11_prints_4 wl_X11_69 wi_X11 yi_X11_ofForecast (c_X11_ofForecast _ G (gW G b g) bc) rfl rfl ⟨Nat.le_of_ble_eq_true rfl, Nat.le_of_ble_eq_true rfl⟩ (Nat.le_of_ble_eq_true rfl) (Nat.le_of_ble_eq_true rfl) (Nat.le_of_ble_eq_true rfl) (fun r u h_4 => ?_)
  subst h_4
  refine J_istore hC [(4, .int (nI (72 + 5 * bc))), (0, .ref b), (1, .int v), (2, .int d), (3, .int w)] dX11_prints_7 (by decide) rfl ?_
  refine J_aload_n hC dX11_prints_9 1 rfl rfl ?_
  refine J_iload hC dX11_prints_10 0 rfl ?_
  refine J_iconst (v := 0) hC dX11_prints_12 rfl ?_
  refine J_iadd (v := nI (72 + 5 * bc)) hC dX11_prints_13 (Int32.add_zero _) ?_
  refine J_iload_n hC dX11_prints_14 2 rfl rfl ?_
  refine J_iast (i := 72 + 5 * bc) (ws' := gW G b (upd g (72 + 5 * bc) v)) hC dX11_prints_15 0 rfl (by omega) (by decide) rfl ?_
  refine J_aload_n hC dX11_prints_16 1 rfl rfl ?_
  refine J_iload hC dX11_prints_17 0 rfl ?_
  refine J_iconst (v := 1) hC dX11_prints_19 rfl ?_
  refine J_iadd (v := nI (73 + 5 * bc)) hC dX11_prints_20 ((nI_add (72 + 5 * bc) 1).trans (congrArg nI (by omega))) ?_
  refine J_iload_n hC dX11_prints_21 3 rfl rfl ?_
  refine J_iast (i := 73 + 5 * bc) (ws' := gW G b (upd (upd g (72 + 5 * bc) v) (73 + 5 * bc) d)) hC dX11_prints_22 0 rfl (by omega) (by decide) rfl ?_
  refine J_aload_n hC dX11_prints_23 1 rfl rfl ?_
  refine J_iload hC dX11_prints_24 0 rfl ?_
  refine J_iconst (v := 2) hC dX11_prints_26 rfl ?_
  refine J_iadd (v := nI (74 + 5 * bc)) hC dX11_prints_27 ((nI_add (72 + 5 * bc) 2).trans (congrArg nI (by omega))) ?_
  refine J_iload_n hC dX11_prints_28 4 rfl rfl ?_
  refine J_iast (i := 74 + 5 * bc) (ws' := gW G b (upd (upd (upd g (72 + 5 * bc) v) (73 + 5 * bc) d) (74 + 5 * bc) w)) hC dX11_prints_29 0 rfl (by omega) (by decide) rfl ?_
  refine J_aload_n hC dX11_prints_30 1 rfl rfl ?_
  refine J_iload hC dX11_prints_31 0 rfl ?_
  refine J_iconst (v := 3) hC dX11_prints_33 rfl ?_
  refine J_iadd (v := nI (75 + 5 * bc)) hC dX11_prints_34 ((nI_add (72 + 5 * bc) 3).trans (congrArg nI (by omega))) ?_
  refine J_iconst (v := 0) hC dX11_prints_35 rfl ?_
  refine J_iast (i := 75 + 5 * bc) (ws' := gW G b (upd (upd (upd (upd g (72 + 5 * bc) v) (73 + 5 * bc) d) (74 + 5 * bc) w) (75 + 5 * bc) 0)) hC dX11_prints_36 0 rfl (by omega) (by decide) rfl ?_
  refine J_aload_n hC dX11_prints_37 1 rfl rfl ?_
  refine J_iload hC dX11_prints_38 0 rfl ?_
  refine J_iconst (v := 4) hC dX11_prints_40 rfl ?_
  refine J_iadd (v := nI (76 + 5 * bc)) hC dX11_prints_41 ((nI_add (72 + 5 * bc) 4).trans (congrArg nI (by omega))) ?_
  refine J_iconst (v := 0) hC dX11_prints_42 rfl ?_
  refine J_iast (i := 76 + 5 * bc) (ws' := gW G b (upd (upd (upd (upd (upd g (72 + 5 * bc) v) (73 + 5 * bc) d) (74 + 5 * bc) w) (75 + 5 * bc) 0) (76 + 5 * bc) 0)) hC dX11_prints_43 0 rfl (by omega) (by decide) rfl ?_
  refine J_aload_n hC dX11_prints_44 1 rfl rfl ?_
  refine J_bipush (v := 8) hC dX11_prints_45 (by decide +kernel) ?_
  refine J_dup2 hC dX11_prints_47 rfl rfl ?_
  refine J_iald (i := 8) (v := g 8) hC dX11_prints_48 0 rfl (by omega) (by decide) ((pk_un (by omega)).trans ((pk_un (by omega)).trans ((pk_un (by omega)).trans ((pk_un (by omega)).trans (pk_un (by omega)))))) ?_
  refine J_topi hbc ?_
  refine J_iconst (v := 1) hC dX11_prints_49 rfl ?_
  refine J_iadd (v := nI (1 + bc)) hC dX11_prints_50 ((nI_add bc 1).trans (congrArg nI (by omega))) ?_
  refine J_iast (i := 8) (ws' := gW G b (upd (upd (upd (upd (upd (upd g (72 + 5 * bc) v) (73 + 5 * bc) d) (74 + 5 * bc) w) (75 + 5 * bc) 0) (76 + 5 * bc) 0) 8 (nI (1 + bc)))) hC dX11_prints_51 0 rfl (by omega) (by decide) rfl ?_
  refine J_aload_n hC dX11_prints_52 1 rfl rfl ?_
  refine J_bipush (v := 8) hC dX11_prints_53 (by decide +kernel) ?_
  refine J_iald (i := 8) (v := nI (1 + bc)) hC dX11_prints_55 0 rfl (by omega) (by decide) pk_us ?_
  refine J_iconst (v := 1) hC dX11_prints_56 rfl ?_
  refine J_isub (v := nI ((1 + bc) - 1)) hC dX11_prints_57 (pk_sub (a := (1 + bc)) (b := 1) (by omega)) ?_
  refine J_iconst (v := 4) hC dX11_prints_58 rfl ?_
  refine J_idiv (v := nI (((1 + bc) - 1) / 4)) hC dX11_prints_59 (by decide) (pk_div (a := ((1 + bc) - 1)) (d := 4) (by omega) (by omega) (by omega)) ?_
  refine J_iret hC hR dX11_prints_60 rfl () ?_ ?_ (by decide) (by decide)
  · rw [show 1 + bc - 1 = bc by omega]
  · rw [m_prints, show 1 + bc = bc + 1 by omega] <;> rfl

set_option maxRecDepth 100000 in
set_option maxHeartbeats 4000000 in
theorem c_X11_dropForecast (l : Launch) (G : gT) (b : Nat) (g : RT) (bc : Nat) (k : Nat) (hbc : g 8 = nI bc) (bbc : bc ≤ 30) (hk : k < bc) : MV l yX11_dropForecast cX11_dropForecast 3 { frames := 1, cells := 0, slots := 0, locals := 20 } [.ref (b), .int (nI k)] G (gW G b g) (fun (_ : Unit) => True) (fun _ => gW G b (m_drop g k bc)) := by
  refine jm_v (own := RX11) (by decide) rfl (Nat.le_of_ble_eq_true rfl) (fun x hl hC hR hN => ?_)
  subst hl
  have key : ∀ fuel : Nat, (∀ (i : Nat) (T : RT), (72 + 5 * k ≤ i ∧ i ≤ 72 + 5 * (bc - 1)) → (T 8 = nI (bc - 1)) → (m_drop g k bc = fo m_shB i (72 + 5 * (bc - 1) - i) T) → 72 + 5 * (bc - 1) - i < fuel → J x G (gW G b T) 0 0 [(0, .ref b), (1, .int (nI k)), (2, .int (nI i))] [] 28) := by
    intro fuel
    induction fuel with
    | zero => exact fun _ _ _ _ _ h => absurd h (Nat.not_lt_zero _)
    | succ fuel ih =>
      intro i T hi hTb hI hmu
      refine J_iload_n hC dX11_dropForecast_28 2 rfl rfl ?_
      refine J_aload_n hC dX11_dropForecast_29 0 rfl rfl ?_
      refine J_bipush (v := 8) hC dX11_dropForecast_30 (by decide +kernel) ?_
      refine J_iald (i := 8) (v := T 8) hC dX11_dropForecast_32 0 rfl (by omega) (by decide) rfl ?_
      refine J_topi hTb ?_
      refine J_callSi hC dX11_dropForecast_33 wl_X11_69 wi_X11 yi_X11_ofForecast (c_X11_ofForecast _ G (gW G b T) (bc - 1)) rfl rfl ⟨Nat.le_of_ble_eq_true rfl, Nat.le_of_ble_eq_true rfl⟩ (Nat.le_of_ble_eq_true rfl) (Nat.le_of_ble_eq_true rfl) (Nat.le_of_ble_eq_true rfl) (fun r u h_33 => ?_)
      subst h_33
      refine J_ic_geN (a := i) (b := 72 + 5 * (bc - 1)) (tgt := 53) hC dX11_dropForecast_36 (by decide) (by omega) (by omega) (fun (c_36 : (72 + 5 * (bc - 1)) ≤ i) => ?_) (fun (c_36 : i < (72 + 5 * (bc - 1))) => ?_)
      · refine J_vret hC hR dX11_dropForecast_53 () ?_ ?_ (by decide) (by decide)
        · trivial
        · rw [hI, fo_done (by omega)]
      · refine J_aload_n hC dX11_dropForecast_39 0 rfl rfl ?_
        refine J_iload_n hC dX11_dropForecast_40 2 rfl rfl ?_
        refine J_aload_n hC dX11_dropForecast_41 0 rfl rfl ?_
        refine J_iload_n hC dX11_dropForecast_42 2 rfl rfl ?_
        refine J_iconst (v := 5) hC dX11_dropForecast_43 rfl ?_
        refine J_iadd (v := nI (5 + i)) hC dX11_dropForecast_44 ((nI_add i 5).trans (congrArg nI (by omega))) ?_
        refine J_iald (i := 5 + i) (v := T (5 + i)) hC dX11_dropForecast_45 0 rfl (by omega) (by decide) rfl ?_
        refine J_iast (i := i) (ws' := gW G b (upd T i (T (5 + i)))) hC dX11_dropForecast_46 0 rfl (by omega) (by decide) rfl ?_
        refine J_iinc hC [(2, .int (nI (i + 1))), (0, .ref b), (1, .int (nI k))] dX11_dropForecast_47 2 rfl (nI_inc _) (by decide) rfl ?_
        refine J_goto (tgt := 28) hC dX11_dropForecast_50 (by decide) ?_
        refine J_lv (lv' := [(0, .ref b), (1, .int (nI k)), (2, .int (nI (i + 1)))]) [1, 2, 0] rfl ?_
        exact ih (i + 1) (upd T i (T (5 + i))) (by omega) ((((pk_un (by omega))).trans (hTb))) (hI.trans ((fo_step (by omega)).trans (congrArg _ (by rw [m_shB, Nat.add_comm i 5])))) (by omega)
  refine J_aload_n hC dX11_dropForecast_0 0 rfl rfl ?_
  refine J_bipush (v := 14) hC dX11_dropForecast_1 (by decide +kernel) ?_
  refine J_dup2 hC dX11_dropForecast_3 rfl rfl ?_
  refine J_iald (i := 14) (v := g 14) hC dX11_dropForecast_4 0 rfl (by omega) (by decide) rfl ?_
  refine J_aload_n hC dX11_dropForecast_5 0 rfl rfl ?_
  refine J_iload_n hC dX11_dropForecast_6 1 rfl rfl ?_
  refine J_callSi hC dX11_dropForecast_7 wl_X11_69 wi_X11 yi_X11_ofForecast (c_X11_ofForecast _ G (gW G b g) k) rfl rfl ⟨Nat.le_of_ble_eq_true rfl, Nat.le_of_ble_eq_true rfl⟩ (Nat.le_of_ble_eq_true rfl) (Nat.le_of_ble_eq_true rfl) (Nat.le_of_ble_eq_true rfl) (fun r u h_7 => ?_)
  subst h_7
  refine J_iconst (v := 3) hC dX11_dropForecast_10 rfl ?_
  refine J_iadd (v := nI (75 + 5 * k)) hC dX11_dropForecast_11 ((nI_add (72 + 5 * k) 3).trans (congrArg nI (by omega))) ?_
  refine J_iald (i := 75 + 5 * k) (v := g (75 + 5 * k)) hC dX11_dropForecast_12 0 rfl (by omega) (by decide) rfl ?_
  refine J_iadd (v := (g 14) + (g (75 + 5 * k))) hC dX11_dropForecast_13 rfl ?_
  refine J_iast (i := 14) (ws' := gW G b (upd g 14 ((g 14) + (g (75 + 5 * k))))) hC dX11_dropForecast_14 0 rfl (by omega) (by decide) rfl ?_
  refine J_aload_n hC dX11_dropForecast_15 0 rfl rfl ?_
  refine J_bipush (v := 8) hC dX11_dropForecast_16 (by decide +kernel) ?_
  refine J_dup2 hC dX11_dropForecast_18 rfl rfl ?_
  refine J_iald (i := 8) (v := g 8) hC dX11_dropForecast_19 0 rfl (by omega) (by decide) (pk_un (by omega)) ?_
  refine J_topi hbc ?_
  refine J_iconst (v := 1) hC dX11_dropForecast_20 rfl ?_
  refine J_isub (v := nI (bc - 1)) hC dX11_dropForecast_21 (pk_sub (a := bc) (b := 1) (by omega)) ?_
  refine J_iast (i := 8) (ws' := gW G b (upd (upd g 14 ((g 14) + (g (75 + 5 * k)))) 8 (nI (bc - 1)))) hC dX11_dropForecast_22 0 rfl (by omega) (by decide) rfl ?_
  refine J_iload_n hC dX11_dropForecast_23 1 rfl rfl ?_
  refine J_callSi hC dX11_dropForecast_24 wl_X11_69 wi_X11 yi_X11_ofForecast (c_X11_ofForecast _ G (gW G b (upd (upd g 14 ((g 14) + (g (75 + 5 * k)))) 8 (nI (bc - 1)))) k) rfl rfl ⟨Nat.le_of_ble_eq_true rfl, Nat.le_of_ble_eq_true rfl⟩ (Nat.le_of_ble_eq_true rfl) (Nat.le_of_ble_eq_true rfl) (Nat.le_of_ble_eq_true rfl) (fun r u h_24 => ?_)
  subst h_24
  refine J_istore_n hC [(2, .int (nI (72 + 5 * k))), (0, .ref b), (1, .int (nI k))] dX11_dropForecast_27 rfl (by decide) rfl ?_
  refine J_lv (lv' := [(0, .ref b), (1, .int (nI k)), (2, .int (nI (72 + 5 * k)))]) [1, 2, 0] rfl ?_
  exact (key _) (72 + 5 * k) (upd (upd g 14 ((g 14) + (g (75 + 5 * k)))) 8 (nI (bc - 1))) (by omega) ((pk_us)) (rfl) (Nat.lt_succ_self _)

set_option maxRecDepth 100000 in
set_option maxHeartbeats 4000000 in
theorem c_X11_pages (l : Launch) (G : gT) (b : Nat) (g : RT) (bc : Nat) (hbc : g 8 = nI bc) (bbc : bc ≤ 30) : MI l yX11_pages cX11_pages 1 (some .int) { frames := 0, cells := 0, slots := 0, locals := 0 } [.ref (b)] G (gW G b g) (fun r (_ : Unit) => r = nI ((bc + 4 - 1) / 4)) (fun _ => gW G b g) := by
  refine jm_i (own := RX11) (by decide) rfl (Nat.le_of_ble_eq_true rfl) (fun x hl hC hR hN => ?_)
  subst hl
  refine J_aload_n hC dX11_pages_0 0 rfl rfl ?_
  refine J_bipush (v := 8) hC dX11_pages_1 (by decide +kernel) ?_
  refine J_iald (i := 8) (v := g 8) hC dX11_pages_3 0 rfl (by omega) (by decide) rfl ?_
  refine J_topi hbc ?_
  refine J_iconst (v := 4) hC dX11_pages_4 rfl ?_
  refine J_iadd (v := nI (4 + bc)) hC dX11_pages_5 ((nI_add bc 4).trans (congrArg nI (by omega))) ?_
  refine J_iconst (v := 1) hC dX11_pages_6 rfl ?_
  refine J_isub (v := nI ((4 + bc) - 1)) hC dX11_pages_7 (pk_sub (a := (4 + bc)) (b := 1) (by omega)) ?_
  refine J_iconst (v := 4) hC dX11_pages_8 rfl ?_
  refine J_idiv (v := nI (((4 + bc) - 1) / 4)) hC dX11_pages_9 (by decide) (pk_div (a := ((4 + bc) - 1)) (d := 4) (by omega) (by omega) (by omega)) ?_
  refine J_iret hC hR dX11_pages_10 rfl () ?_ ?_ (by decide) (by decide)
  · rw [show 4 + bc - 1 = bc + 4 - 1 by omega]
  · rfl

set_option maxRecDepth 100000 in
set_option maxHeartbeats 4000000 in
theorem c_X11_pageEnd (l : Launch) (G : gT) (b : Nat) (g : RT) (bc : Nat) (pg : Nat) (hbc : g 8 = nI bc) (bbc : bc ≤ 30) (hpg : pg ≤ 30) : MI l yX11_pageEnd cX11_pageEnd 3 (some .int) { frames := 0, cells := 0, slots := 0, locals := 0 } [.ref (b), .int (nI pg)] G (gW G b g) (fun r (_ : Unit) => r = nI (min bc (4 * pg + 4))) (fun _ => gW G b g) := by
  refine jm_i (own := RX11) (by decide) rfl (Nat.le_of_ble_eq_true rfl) (fun x hl hC hR hN => ?_)
  subst hl
  refine J_iconst (v := 4) hC dX11_pageEnd_0 rfl ?_
  refine J_iload_n hC dX11_pageEnd_1 1 rfl rfl ?_
  refine J_imul (v := nI (4 * pg)) hC dX11_pageEnd_2 (pk_mul 4 pg) ?_
  refine J_iconst (v := 4) hC dX11_pageEnd_3 rfl ?_
  refine J_iadd (v := nI (4 + 4 * pg)) hC dX11_pageEnd_4 ((nI_add (4 * pg) 4).trans (congrArg nI (by omega))) ?_
  refine J_istore_n hC [(2, .int (nI (4 + 4 * pg))), (0, .ref b), (1, .int (nI pg))] dX11_pageEnd_5 rfl (by decide) rfl ?_
  refine J_iload_n hC dX11_pageEnd_6 0 rfl rfl ?_
  refine J_aload_n hC dX11_pageEnd_7 1 rfl rfl ?_
  refine J_bipush (v := 8) hC dX11_pageEnd_8 (by decide +kernel) ?_
  refine J_iald (i := 8) (v := g 8) hC dX11_pageEnd_10 0 rfl (by omega) (by decide) rfl ?_
  refine J_topi hbc ?_
  refine J_ic_geN (a := 4 + 4 * pg) (b := bc) (tgt := 18) hC dX11_pageEnd_11 (by decide) (by omega) (by omega) (fun (c_11 : bc ≤ (4 + 4 * pg)) => ?_) (fun (c_11 : (4 + 4 * pg) < bc) => ?_)
  · refine J_aload_n hC dX11_pageEnd_18 1 rfl rfl ?_
    refine J_bipush (v := 8) hC dX11_pageEnd_19 (by decide +kernel) ?_
    refine J_iald (i := 8) (v := g 8) hC dX11_pageEnd_21 0 rfl (by omega) (by decide) rfl ?_
    refine J_topi hbc ?_
    refine J_iret hC hR dX11_pageEnd_22 rfl () ?_ ?_ (by decide) (by decide)
    · exact congrArg nI (by omega)
    · rfl
  · refine J_iload_n hC dX11_pageEnd_14 0 rfl rfl ?_
    refine J_goto (tgt := 22) hC dX11_pageEnd_15 (by decide) ?_
    refine J_iret hC hR dX11_pageEnd_22 rfl () ?_ ?_ (by decide) (by decide)
    · exact congrArg nI (by omega)
    · rfl

set_option maxRecDepth 100000 in
set_option maxHeartbeats 4000000 in
theorem c_X11_refund (l : Launch) (G : gT) (b : Nat) (g : RT) (bc : Nat) (pg : Nat) (hbc : g 8 = nI bc) (bbc : bc ≤ 30) (hpg : pg ≤ 30) : MI l yX11_refund cX11_refund 4 (some .int) { frames := 1, cells := 0, slots := 0, locals := 22 } [.ref (b), .int (nI pg)] G (gW G b g) (fun r (_ : Unit) => r = m_refund g pg bc) (fun _ => gW G b g) := by
  refine jm_i (own := RX11) (by decide) rfl (Nat.le_of_ble_eq_true rfl) (fun x hl hC hR hN => ?_)
  subst hl
  have key : ∀ fuel : Nat, (∀ (i : Nat) (acc : Int32), (i ≤ 4 * pg + 4) → (m_refund g pg bc = fo (fun k s => s + g (76 + 5 * k)) i (min bc (4 * pg + 4) - i) acc) → 4 * pg + 4 - i < fuel → J x G (gW G b g) 0 0 [(0, .ref b), (1, .int (nI pg)), (2, .int acc), (3, .int (nI i))] [] 6) := by
    intro fuel
    induction fuel with
    | zero => exact fun _ _ _ _ h => absurd h (Nat.not_lt_zero _)
    | succ fuel ih =>
      intro i acc hi hI hmu
      refine J_iload_n hC dX11_refund_6 3 rfl rfl ?_
      refine J_aload_n hC dX11_refund_7 0 rfl rfl ?_
      refine J_iload_n hC dX11_refund_8 1 rfl rfl ?_
      refine J_callSi hC dX11_refund_9 wl_X11_77 wi_X11 yi_X11_pageEnd (c_X11_pageEnd _ G b g bc pg (hbc) (by omega) (by omega)) rfl rfl ⟨Nat.le_of_ble_eq_true rfl, Nat.le_of_ble_eq_true rfl⟩ (Nat.le_of_ble_eq_true rfl) (Nat.le_of_ble_eq_true rfl) (Nat.le_of_ble_eq_true rfl) (fun r u h_9 => ?_)
      subst h_9
      refine J_ic_geN (a := i) (b := min bc (4 * pg + 4)) (tgt := 32) hC dX11_refund_12 (by decide) (by omega) (by omega) (fun (c_12 : (min bc (4 * pg + 4)) ≤ i) => ?_) (fun (c_12 : i < (min bc (4 * pg + 4))) => ?_)
      · refine J_iload_n hC dX11_refund_32 2 rfl rfl ?_
        refine J_iret hC hR dX11_refund_33 rfl () ?_ ?_ (by decide) (by decide)
        · exact (hI.trans (fo_done c_12)).symm
        · rfl
      · refine J_iload_n hC dX11_refund_15 2 rfl rfl ?_
        refine J_aload_n hC dX11_refund_16 0 rfl rfl ?_
        refine J_iload_n hC dX11_refund_17 3 rfl rfl ?_
        refine J_callSi hC dX11_refund_18 wl_X11_69 wi_X11 yi_X11_ofForecast (c_X11_ofForecast _ G (gW G b g) i) rfl rfl ⟨Nat.le_of_ble_eq_true rfl, Nat.le_of_ble_eq_true rfl⟩ (Nat.le_of_ble_eq_true rfl) (Nat.le_of_ble_eq_true rfl) (Nat.le_of_ble_eq_true rfl) (fun r u h_18 => ?_)
        subst h_18
        refine J_iconst (v := 4) hC dX11_refund_21 rfl ?_
        refine J_iadd (v := nI (76 + 5 * i)) hC dX11_refund_22 ((nI_add (72 + 5 * i) 4).trans (congrArg nI (by omega))) ?_
        refine J_iald (i := 76 + 5 * i) (v := g (76 + 5 * i)) hC dX11_refund_23 0 rfl (by omega) (by decide) rfl ?_
        refine J_iadd (v := acc + (g (76 + 5 * i))) hC dX11_refund_24 rfl ?_
        refine J_istore_n hC [(2, .int (acc + (g (76 + 5 * i)))), (0, .ref b), (1, .int (nI pg)), (3, .int (nI i))] dX11_refund_25 rfl (by decide) rfl ?_
        refine J_iinc hC [(3, .int (nI (i + 1))), (2, .int (acc + (g (76 + 5 * i)))), (0, .ref b), (1, .int (nI pg))] dX11_refund_26 3 rfl (nI_inc _) (by decide) rfl ?_
        refine J_goto (tgt := 6) hC dX11_refund_29 (by decide) ?_
        refine J_lv (lv' := [(0, .ref b), (1, .int (nI pg)), (2, .int (acc + (g (76 + 5 * i)))), (3, .int (nI (i + 1)))]) [2, 3, 1, 0] rfl ?_
        exact ih (i + 1) (acc + (g (76 + 5 * i))) (by omega) (hI.trans (fo_step c_12)) (by omega)
  refine J_iconst (v := 0) hC dX11_refund_0 rfl ?_
  refine J_istore_n hC [(2, .int 0), (0, .ref b), (1, .int (nI pg))] dX11_refund_1 rfl (by decide) rfl ?_
  refine J_iconst (v := 4) hC dX11_refund_2 rfl ?_
  refine J_iload_n hC dX11_refund_3 2 rfl rfl ?_
  refine J_imul (v := nI (4 * pg)) hC dX11_refund_4 (pk_mul 4 pg) ?_
  refine J_istore_n hC [(3, .int (nI (4 * pg))), (2, .int 0), (0, .ref b), (1, .int (nI pg))] dX11_refund_5 rfl (by decide) rfl ?_
  refine J_lv (lv' := [(0, .ref b), (1, .int (nI pg)), (2, .int 0), (3, .int (nI (4 * pg)))]) [2, 3, 1, 0] rfl ?_
  exact (key _) (4 * pg) 0 (by omega) (rfl) (Nat.lt_succ_self _)

set_option maxRecDepth 100000 in
set_option maxHeartbeats 4000000 in
theorem c_X11_addTrust (l : Launch) (G : gT) (b : Nat) (g : RT) (v : Nat) (d : Int32) (hv : v < 6) : MV l yX11_addTrust cX11_addTrust 5 { frames := 1, cells := 0, slots := 0, locals := 20 } [.ref (b), .int (nI v), .int d] G (gW G b g) (fun (_ : Unit) => True) (fun _ => gW G b (m_addTrust g v d)) := by
  refine jm_v (own := RX11) (by decide) rfl (Nat.le_of_ble_eq_true rfl) (fun x hl hC hR hN => ?_)
  subst hl
  refine J_iload_n hC dX11_addTrust_0 1 rfl rfl ?_
  refine J_callSi hC dX11_addTrust_1 wl_X11_81 wi_X11 yi_X11_ofVillage (c_X11_ofVillage _ G (gW G b g) v) rfl rfl ⟨Nat.le_of_ble_eq_true rfl, Nat.le_of_ble_eq_true rfl⟩ (Nat.le_of_ble_eq_true rfl) (Nat.le_of_ble_eq_true rfl) (Nat.le_of_ble_eq_true rfl) (fun r u h_1 => ?_)
  subst h_1
  refine J_iconst (v := 2) hC dX11_addTrust_4 rfl ?_
  refine J_iadd (v := nI (26 + 3 * v)) hC dX11_addTrust_5 ((nI_add (24 + 3 * v) 2).trans (congrArg nI (by omega))) ?_
  refine J_istore_n hC [(3, .int (nI (26 + 3 * v))), (0, .ref b), (1, .int (nI v)), (2, .int d)] dX11_addTrust_6 rfl (by decide) rfl ?_
  refine J_aload_n hC dX11_addTrust_7 1 rfl rfl ?_
  refine J_iload_n hC dX11_addTrust_8 0 rfl rfl ?_
  refine J_iald (i := 26 + 3 * v) (v := g (26 + 3 * v)) hC dX11_addTrust_9 0 rfl (by omega) (by decide) rfl ?_
  refine J_iload_n hC dX11_addTrust_10 3 rfl rfl ?_
  refine J_iadd (v := (g (26 + 3 * v)) + d) hC dX11_addTrust_11 rfl ?_
  refine J_istore hC [(4, .int ((g (26 + 3 * v)) + d)), (3, .int (nI (26 + 3 * v))), (0, .ref b), (1, .int (nI v)), (2, .int d)] dX11_addTrust_12 (by decide) rfl ?_
  refine J_iload hC dX11_addTrust_14 0 rfl ?_
  refine J_if_ge (tgt := 22) hC dX11_addTrust_16 (by decide) (fun (c_16 : 0 ≤ ((g (26 + 3 * v)) + d)) => ?_) (fun (c_16 : ¬ 0 ≤ ((g (26 + 3 * v)) + d)) => ?_)
  · refine J_iload hC dX11_addTrust_22 0 rfl ?_
    refine J_bipush (v := 100) hC dX11_addTrust_24 (by decide +kernel) ?_
    refine J_ic_le (tgt := 33) hC dX11_addTrust_26 (by decide) (fun (c_26 : ((g (26 + 3 * v)) + d) ≤ 100) => ?_) (fun (c_26 : ¬ ((g (26 + 3 * v)) + d) ≤ 100) => ?_)
    · refine J_aload_n hC dX11_addTrust_33 2 rfl rfl ?_
      refine J_iload_n hC dX11_addTrust_34 1 rfl rfl ?_
      refine J_iload hC dX11_addTrust_35 0 rfl ?_
      refine J_iast (i := 26 + 3 * v) (ws' := gW G b (upd g (26 + 3 * v) ((g (26 + 3 * v)) + d))) hC dX11_addTrust_37 0 rfl (by omega) (by decide) rfl ?_
      refine J_vret hC hR dX11_addTrust_38 () ?_ ?_ (by decide) (by decide)
      · trivial
      · rw [m_addTrust, clampT, if_pos c_16, if_pos c_26]
    · refine J_bipush (v := 100) hC dX11_addTrust_29 (by decide +kernel) ?_
      refine J_istore hC [(4, .int 100), (3, .int (nI (26 + 3 * v))), (0, .ref b), (1, .int (nI v)), (2, .int d)] dX11_addTrust_31 (by decide) rfl ?_
      refine J_aload_n hC dX11_addTrust_33 2 rfl rfl ?_
      refine J_iload_n hC dX11_addTrust_34 1 rfl rfl ?_
      refine J_iload hC dX11_addTrust_35 0 rfl ?_
      refine J_iast (i := 26 + 3 * v) (ws' := gW G b (upd g (26 + 3 * v) 100)) hC dX11_addTrust_37 0 rfl (by omega) (by decide) rfl ?_
      refine J_vret hC hR dX11_addTrust_38 () ?_ ?_ (by decide) (by decide)
      · trivial
      · rw [m_addTrust, clampT, if_pos c_16, if_neg c_26]
  · refine J_iconst (v := 0) hC dX11_addTrust_19 rfl ?_
    refine J_istore hC [(4, .int 0), (3, .int (nI (26 + 3 * v))), (0, .ref b), (1, .int (nI v)), (2, .int d)] dX11_addTrust_20 (by decide) rfl ?_
    refine J_iload hC dX11_addTrust_22 0 rfl ?_
    refine J_bipush (v := 100) hC dX11_addTrust_24 (by decide +kernel) ?_
    refine J_ic_le (tgt := 33) hC dX11_addTrust_26 (by decide) (fun _ => ?_) (fun c => absurd (by decide) c)
    refine J_aload_n hC dX11_addTrust_33 2 rfl rfl ?_
    refine J_iload_n hC dX11_addTrust_34 1 rfl rfl ?_
    refine J_iload hC dX11_addTrust_35 0 rfl ?_
    refine J_iast (i := 26 + 3 * v) (ws' := gW G b (upd g (26 + 3 * v) 0)) hC dX11_addTrust_37 0 rfl (by omega) (by decide) rfl ?_
    refine J_vret hC hR dX11_addTrust_38 () ?_ ?_ (by decide) (by decide)
    · trivial
    · rw [m_addTrust, clampT, if_neg c_16]

set_option maxRecDepth 100000 in
set_option maxHeartbeats 4000000 in
theorem c_X11_payBack (l : Launch) (G : gT) (b : Nat) (g : RT) (r : Int32) : MV l yX11_payBack cX11_payBack 2 { frames := 0, cells := 0, slots := 0, locals := 0 } [.ref (b), .int r] G (gW G b g) (fun (_ : Unit) => True) (fun _ => gW G b (m_payBack g r)) := by
  refine jm_v (own := RX11) (by decide) rfl (Nat.le_of_ble_eq_true rfl) (fun x hl hC hR hN => ?_)
  subst hl
  refine J_aload_n hC dX11_payBack_0 0 rfl rfl ?_
  refine J_iconst (v := 4) hC dX11_payBack_1 rfl ?_
  refine J_dup2 hC dX11_payBack_2 rfl rfl ?_
  refine J_iald (i := 4) (v := g 4) hC dX11_payBack_3 0 rfl (by omega) (by decide) rfl ?_
  refine J_iload_n hC dX11_payBack_4 1 rfl rfl ?_
  refine J_isub (v := (g 4) - r) hC dX11_payBack_5 rfl ?_
  refine J_iast (i := 4) (ws' := gW G b (upd g 4 ((g 4) - r))) hC dX11_payBack_6 0 rfl (by omega) (by decide) rfl ?_
  refine J_aload_n hC dX11_payBack_7 0 rfl rfl ?_
  refine J_bipush (v := 16) hC dX11_payBack_8 (by decide +kernel) ?_
  refine J_dup2 hC dX11_payBack_10 rfl rfl ?_
  refine J_iald (i := 16) (v := g 16) hC dX11_payBack_11 0 rfl (by omega) (by decide) (pk_un (by omega)) ?_
  refine J_iload_n hC dX11_payBack_12 1 rfl rfl ?_
  refine J_iadd (v := (g 16) + r) hC dX11_payBack_13 rfl ?_
  refine J_iast (i := 16) (ws' := gW G b (upd (upd g 4 ((g 4) - r)) 16 ((g 16) + r))) hC dX11_payBack_14 0 rfl (by omega) (by decide) rfl ?_
  refine J_vret hC hR dX11_payBack_15 () ?_ ?_ (by decide) (by decide)
  · trivial
  · rfl

set_option maxRecDepth 100000 in
set_option maxHeartbeats 4000000 in
theorem c_X11_isHeld (l : Launch) (G : gT) (b : Nat) (g : RT) (f : Nat) (d : Int32) (hf : f < 6) (hp : ¬ g (44 + 5 * f) = 0) : MI l yX11_isHeld cX11_isHeld 3 (some .boolean) { frames := 1, cells := 0, slots := 0, locals := 20 } [.ref (b), .int (nI f), .int d] G (gW G b g) (fun r (_ : Unit) => (r = 1 ∧ m_isHeld g f d) ∨ (r = 0 ∧ ¬ (m_isHeld g f d))) (fun _ => gW G b g) := by
  refine jm_i (own := RX11) (by decide) rfl (Nat.le_of_ble_eq_true rfl) (fun x hl hC hR hN => ?_)
  subst hl
  refine J_iload_n hC dX11_isHeld_0 2 rfl rfl ?_
  refine J_iload_n hC dX11_isHeld_1 1 rfl rfl ?_
  refine J_iadd (v := d + (nI f)) hC dX11_isHeld_2 rfl ?_
  refine J_aload_n hC dX11_isHeld_3 0 rfl rfl ?_
  refine J_iload_n hC dX11_isHeld_4 1 rfl rfl ?_
  refine J_callSi hC dX11_isHeld_5 wl_X11_98 wi_X11 yi_X11_ofFair (c_X11_ofFair _ G (gW G b g) f) rfl rfl ⟨Nat.le_of_ble_eq_true rfl, Nat.le_of_ble_eq_true rfl⟩ (Nat.le_of_ble_eq_true rfl) (Nat.le_of_ble_eq_true rfl) (Nat.le_of_ble_eq_true rfl) (fun r u h_5 => ?_)
  subst h_5
  refine J_iconst (v := 2) hC dX11_isHeld_8 rfl ?_
  refine J_iadd (v := nI (44 + 5 * f)) hC dX11_isHeld_9 ((nI_add (42 + 5 * f) 2).trans (congrArg nI (by omega))) ?_
  refine J_iald (i := 44 + 5 * f) (v := g (44 + 5 * f)) hC dX11_isHeld_10 0 rfl (by omega) (by decide) rfl ?_
  refine J_irem (v := imod (d + (nI f)) (g (44 + 5 * f))) hC dX11_isHeld_11 hp rfl ?_
  refine J_if_ne (tgt := 19) hC dX11_isHeld_12 (by decide) (fun (c_12 : ¬ (imod (d + (nI f)) (g (44 + 5 * f))) = 0) => ?_) (fun (c_12 : (imod (d + (nI f)) (g (44 + 5 * f))) = 0) => ?_)
  · refine J_iconst (v := 0) hC dX11_isHeld_19 rfl ?_
    refine J_iret hC hR dX11_isHeld_20 rfl () ?_ ?_ (by decide) (by decide)
    · exact Or.inr ⟨rfl, c_12⟩
    · rfl
  · refine J_iconst (v := 1) hC dX11_isHeld_15 rfl ?_
    refine J_goto (tgt := 20) hC dX11_isHeld_16 (by decide) ?_
    refine J_iret hC hR dX11_isHeld_20 rfl () ?_ ?_ (by decide) (by decide)
    · exact Or.inl ⟨rfl, c_12⟩
    · rfl

set_option maxRecDepth 100000 in
set_option maxHeartbeats 4000000 in
theorem c_X11_allOdds (l : Launch) (G : gT) (b : Nat) (g : RT) : MI l yX11_allOdds cX11_allOdds 1 (some .int) { frames := 0, cells := 0, slots := 0, locals := 0 } [.ref (b)] G (gW G b g) (fun r (_ : Unit) => r = m_allOdds g) (fun _ => gW G b g) := by
  refine jm_i (own := RX11) (by decide) rfl (Nat.le_of_ble_eq_true rfl) (fun x hl hC hR hN => ?_)
  subst hl
  refine J_aload_n hC dX11_allOdds_0 0 rfl rfl ?_
  refine J_iconst (v := 1) hC dX11_allOdds_1 rfl ?_
  refine J_iald (i := 1) (v := g 1) hC dX11_allOdds_2 0 rfl (by omega) (by decide) rfl ?_
  refine J_aload_n hC dX11_allOdds_3 0 rfl rfl ?_
  refine J_iconst (v := 2) hC dX11_allOdds_4 rfl ?_
  refine J_iald (i := 2) (v := g 2) hC dX11_allOdds_5 0 rfl (by omega) (by decide) rfl ?_
  refine J_iadd (v := (g 1) + (g 2)) hC dX11_allOdds_6 rfl ?_
  refine J_aload_n hC dX11_allOdds_7 0 rfl rfl ?_
  refine J_iconst (v := 3) hC dX11_allOdds_8 rfl ?_
  refine J_iald (i := 3) (v := g 3) hC dX11_allOdds_9 0 rfl (by omega) (by decide) rfl ?_
  refine J_iadd (v := ((g 1) + (g 2)) + (g 3)) hC dX11_allOdds_10 rfl ?_
  refine J_iret hC hR dX11_allOdds_11 rfl () ?_ ?_ (by decide) (by decide)
  · rfl
  · rfl

set_option maxRecDepth 100000 in
set_option maxHeartbeats 4000000 in
theorem c_X11_allOdds_n (l : Launch) (G : gT) (b : Nat) (g : RT) (oa : Nat) (ob : Nat) (oc : Nat) (hoa : g 1 = nI oa) (boa : oa ≤ 20) (hob : g 2 = nI ob) (bob : ob ≤ 20) (hoc : g 3 = nI oc) (boc : oc ≤ 20) : MI l yX11_allOdds cX11_allOdds 1 (some .int) { frames := 0, cells := 0, slots := 0, locals := 0 } [.ref (b)] G (gW G b g) (fun r (_ : Unit) => r = nI (oa + ob + oc)) (fun _ => gW G b g) := by
  refine jm_i (own := RX11) (by decide) rfl (Nat.le_of_ble_eq_true rfl) (fun x hl hC hR hN => ?_)
  subst hl
  refine J_aload_n hC dX11_allOdds_0 0 rfl rfl ?_
  refine J_iconst (v := 1) hC dX11_allOdds_1 rfl ?_
  refine J_iald (i := 1) (v := g 1) hC dX11_allOdds_2 0 rfl (by omega) (by decide) rfl ?_
  refine J_topi hoa ?_
  refine J_aload_n hC dX11_allOdds_3 0 rfl rfl ?_
  refine J_iconst (v := 2) hC dX11_allOdds_4 rfl ?_
  refine J_iald (i := 2) (v := g 2) hC dX11_allOdds_5 0 rfl (by omega) (by decide) rfl ?_
  refine J_topi hob ?_
  refine J_iadd (v := nI (oa + ob)) hC dX11_allOdds_6 (nI_add oa ob) ?_
  refine J_aload_n hC dX11_allOdds_7 0 rfl rfl ?_
  refine J_iconst (v := 3) hC dX11_allOdds_8 rfl ?_
  refine J_iald (i := 3) (v := g 3) hC dX11_allOdds_9 0 rfl (by omega) (by decide) rfl ?_
  refine J_topi hoc ?_
  refine J_iadd (v := nI (oa + ob + oc)) hC dX11_allOdds_10 ((nI_add (oa + ob) oc).trans (congrArg nI (by omega))) ?_
  refine J_iret hC hR dX11_allOdds_11 rfl () ?_ ?_ (by decide) (by decide)
  · rfl
  · rfl

set_option maxRecDepth 100000 in
set_option maxHeartbeats 4000000 in
theorem c_X11_weatherBy (l : Launch) (G : gT) (b : Nat) (g : RT) (oa : Nat) (ob : Nat) (oc : Nat) (sd : Nat) (hoa : g 1 = nI oa) (boa : oa ≤ 20) (hob : g 2 = nI ob) (bob : ob ≤ 20) (hoc : g 3 = nI oc) (boc : oc ≤ 20) (hs : sd < 1024) (h1 : 1 ≤ oa + ob + oc) : MI l yX11_weatherBy cX11_weatherBy 5 (some .int) { frames := 1, cells := 0, slots := 0, locals := 20 } [.ref (b), .int (nI sd)] G (gW G b g) (fun r (_ : Unit) => r = nI (m_wb g (nI sd))) (fun _ => gW G b g) := by
  refine jm_i (own := RX11) (by decide) rfl (Nat.le_of_ble_eq_true rfl) (fun x hl hC hR hN => ?_)
  subst hl
  refine J_iload_n hC dX11_weatherBy_0 1 rfl rfl ?_
  refine J_aload_n hC dX11_weatherBy_1 0 rfl rfl ?_
  have hmod := Nat.mod_lt sd (show 0 < oa + ob + oc by omega)
  refine J_callSi hC dX11_weatherBy_2 wl_X11_108 wi_X11 yi_X11_allOdds (c_X11_allOdds_n _ G b g oa ob oc (hoa) (by omega) (hob) (by omega) (hoc) (by omega)) rfl rfl ⟨Nat.le_of_ble_eq_true rfl, Nat.le_of_ble_eq_true rfl⟩ (Nat.le_of_ble_eq_true rfl) (Nat.le_of_ble_eq_true rfl) (Nat.le_of_ble_eq_true rfl) (fun r u h_2 => ?_)
  subst h_2
  refine J_irem (v := nI (sd % (oa + ob + oc))) hC dX11_weatherBy_5 (nI_ne0 (by omega) (by omega)) (pk_rem (a := sd) (d := (oa + ob + oc)) (by omega) (by omega) (by omega)) ?_
  refine J_istore_n hC [(2, .int (nI (sd % (oa + ob + oc)))), (0, .ref b), (1, .int (nI sd))] dX11_weatherBy_6 rfl (by decide) rfl ?_
  refine J_iconst (v := 0) hC dX11_weatherBy_7 rfl ?_
  refine J_istore_n hC [(3, .int 0), (2, .int (nI (sd % (oa + ob + oc)))), (0, .ref b), (1, .int (nI sd))] dX11_weatherBy_8 rfl (by decide) rfl ?_
  refine J_aload_n hC dX11_weatherBy_9 2 rfl rfl ?_
  refine J_iconst (v := 1) hC dX11_weatherBy_10 rfl ?_
  refine J_iald (i := 1) (v := g 1) hC dX11_weatherBy_11 0 rfl (by omega) (by decide) rfl ?_
  refine J_topi hoa ?_
  refine J_istore hC [(4, .int (nI oa)), (3, .int 0), (2, .int (nI (sd % (oa + ob + oc)))), (0, .ref b), (1, .int (nI sd))] dX11_weatherBy_12 (by decide) rfl ?_
  refine J_iload_n hC dX11_weatherBy_14 2 rfl rfl ?_
  refine J_iload hC dX11_weatherBy_15 0 rfl ?_
  refine J_ic_ltN (a := sd % (oa + ob + oc)) (b := oa) (tgt := 36) hC dX11_weatherBy_17 (by decide) (by omega) (by omega) (fun (c_17 : (sd % (oa + ob + oc)) < oa) => ?_) (fun (c_17 : oa ≤ (sd % (oa + ob + oc))) => ?_)
  · refine J_iload_n hC dX11_weatherBy_36 1 rfl rfl ?_
    refine J_iret hC hR dX11_weatherBy_37 rfl () ?_ ?_ (by decide) (by decide)
    · rw [m_wb_nat boa bob boc h1 hoa hob hoc hs, if_pos (by omega)] <;> rfl
    · rfl
  · refine J_iinc hC [(3, .int 1), (4, .int (nI oa)), (2, .int (nI (sd % (oa + ob + oc)))), (0, .ref b), (1, .int (nI sd))] dX11_weatherBy_20 1 rfl (by decide +kernel) (by decide) rfl ?_
    refine J_iload hC dX11_weatherBy_23 1 rfl ?_
    refine J_aload_n hC dX11_weatherBy_25 3 rfl rfl ?_
    refine J_iconst (v := 1) hC dX11_weatherBy_26 rfl ?_
    refine J_iload_n hC dX11_weatherBy_27 0 rfl rfl ?_
    refine J_iadd (v := nI 2) hC dX11_weatherBy_28 ((nI_add 1 1).trans (congrArg nI (by omega))) ?_
    refine J_iald (i := 2) (v := g 2) hC dX11_weatherBy_29 0 rfl (by omega) (by decide) rfl ?_
    refine J_topi hob ?_
    refine J_iadd (v := nI (oa + ob)) hC dX11_weatherBy_30 (nI_add oa ob) ?_
    refine J_istore hC [(4, .int (nI (oa + ob))), (3, .int 1), (2, .int (nI (sd % (oa + ob + oc)))), (0, .ref b), (1, .int (nI sd))] dX11_weatherBy_31 (by decide) rfl ?_
    refine J_goto (tgt := 14) hC dX11_weatherBy_33 (by decide) ?_
    refine J_iload_n hC dX11_weatherBy_14 2 rfl rfl ?_
    refine J_iload hC dX11_weatherBy_15 0 rfl ?_
    refine J_ic_ltN (a := sd % (oa + ob + oc)) (b := oa + ob) (tgt := 36) hC dX11_weatherBy_17 (by decide) (by omega) (by omega) (fun (c_17_1 : (sd % (oa + ob + oc)) < (oa + ob)) => ?_) (fun (c_17_1 : (oa + ob) ≤ (sd % (oa + ob + oc))) => ?_)
    · refine J_iload_n hC dX11_weatherBy_36 1 rfl rfl ?_
      refine J_iret hC hR dX11_weatherBy_37 rfl () ?_ ?_ (by decide) (by decide)
      · rw [m_wb_nat boa bob boc h1 hoa hob hoc hs, if_neg (by omega), if_pos (by omega)] <;> rfl
      · rfl
    · refine J_iinc hC [(3, .int 2), (4, .int (nI (oa + ob))), (2, .int (nI (sd % (oa + ob + oc)))), (0, .ref b), (1, .int (nI sd))] dX11_weatherBy_20 1 rfl (by decide +kernel) (by decide) rfl ?_
      refine J_iload hC dX11_weatherBy_23 1 rfl ?_
      refine J_aload_n hC dX11_weatherBy_25 3 rfl rfl ?_
      refine J_iconst (v := 1) hC dX11_weatherBy_26 rfl ?_
      refine J_iload_n hC dX11_weatherBy_27 0 rfl rfl ?_
      refine J_iadd (v := nI 3) hC dX11_weatherBy_28 ((nI_add 1 2).trans (congrArg nI (by omega))) ?_
      refine J_iald (i := 3) (v := g 3) hC dX11_weatherBy_29 0 rfl (by omega) (by decide) rfl ?_
      refine J_topi hoc ?_
      refine J_iadd (v := nI (oa + ob + oc)) hC dX11_weatherBy_30 ((nI_add (oa + ob) oc).trans (congrArg nI (by omega))) ?_
      refine J_istore hC [(4, .int (nI (oa + ob + oc))), (3, .int 2), (2, .int (nI (sd % (oa + ob + oc)))), (0, .ref b), (1, .int (nI sd))] dX11_weatherBy_31 (by decide) rfl ?_
      refine J_goto (tgt := 14) hC dX11_weatherBy_33 (by decide) ?_
      refine J_iload_n hC dX11_weatherBy_14 2 rfl rfl ?_
      refine J_iload hC dX11_weatherBy_15 0 rfl ?_
      refine J_ic_ltN (a := sd % (oa + ob + oc)) (b := oa + ob + oc) (tgt := 36) hC dX11_weatherBy_17 (by decide) (by omega) (by omega) (fun (c_17_2 : (sd % (oa + ob + oc)) < (oa + ob + oc)) => ?_) (fun (c_17_2 : (oa + ob + oc) ≤ (sd % (oa + ob + oc))) => ?_)
      · refine J_iload_n hC dX11_weatherBy_36 1 rfl rfl ?_
        refine J_iret hC hR dX11_weatherBy_37 rfl () ?_ ?_ (by decide) (by decide)
        · rw [m_wb_nat boa bob boc h1 hoa hob hoc hs, if_neg (by omega), if_neg (by omega)] <;> rfl
        · rfl
      · exfalso; omega

set_option maxRecDepth 100000 in
set_option maxHeartbeats 4000000 in
theorem c_X11_sell (l : Launch) (G : gT) (b : Nat) (g : RT) (k : Nat) (many : Int32) (pr : Int32) (hk : k < 30) : MV l yX11_sell cX11_sell 5 { frames := 1, cells := 0, slots := 0, locals := 20 } [.ref (b), .int (nI k), .int many, .int pr] G (gW G b g) (fun (_ : Unit) => True) (fun _ => gW G b (m_sell g k many pr)) := by
  refine jm_v (own := RX11) (by decide) rfl (Nat.le_of_ble_eq_true rfl) (fun x hl hC hR hN => ?_)
  subst hl
  refine J_iload_n hC dX11_sell_0 1 rfl rfl ?_
  refine J_callSi hC dX11_sell_1 wl_X11_69 wi_X11 yi_X11_ofForecast (c_X11_ofForecast _ G (gW G b g) k) rfl rfl ⟨Nat.le_of_ble_eq_true rfl, Nat.le_of_ble_eq_true rfl⟩ (Nat.le_of_ble_eq_true rfl) (Nat.le_of_ble_eq_true rfl) (Nat.le_of_ble_eq_true rfl) (fun r u h_1 => ?_)
  subst h_1
  refine J_istore hC [(4, .int (nI (72 + 5 * k))), (0, .ref b), (1, .int (nI k)), (2, .int many), (3, .int pr)] dX11_sell_4 (by decide) rfl ?_
  refine J_aload_n hC dX11_sell_6 1 rfl rfl ?_
  refine J_iload hC dX11_sell_7 0 rfl ?_
  refine J_iconst (v := 3) hC dX11_sell_9 rfl ?_
  refine J_iadd (v := nI (75 + 5 * k)) hC dX11_sell_10 ((nI_add (72 + 5 * k) 3).trans (congrArg nI (by omega))) ?_
  refine J_dup2 hC dX11_sell_11 rfl rfl ?_
  refine J_iald (i := 75 + 5 * k) (v := g (75 + 5 * k)) hC dX11_sell_12 0 rfl (by omega) (by decide) rfl ?_
  refine J_iload_n hC dX11_sell_13 3 rfl rfl ?_
  refine J_iadd (v := (g (75 + 5 * k)) + many) hC dX11_sell_14 rfl ?_
  refine J_iast (i := 75 + 5 * k) (ws' := gW G b (upd g (75 + 5 * k) ((g (75 + 5 * k)) + many))) hC dX11_sell_15 0 rfl (by omega) (by decide) rfl ?_
  refine J_aload_n hC dX11_sell_16 1 rfl rfl ?_
  refine J_iload hC dX11_sell_17 0 rfl ?_
  refine J_iconst (v := 4) hC dX11_sell_19 rfl ?_
  refine J_iadd (v := nI (76 + 5 * k)) hC dX11_sell_20 ((nI_add (72 + 5 * k) 4).trans (congrArg nI (by omega))) ?_
  refine J_dup2 hC dX11_sell_21 rfl rfl ?_
  refine J_iald (i := 76 + 5 * k) (v := g (76 + 5 * k)) hC dX11_sell_22 0 rfl (by omega) (by decide) (pk_un (by omega)) ?_
  refine J_iload_n hC dX11_sell_23 3 rfl rfl ?_
  refine J_iload_n hC dX11_sell_24 4 rfl rfl ?_
  refine J_imul (v := many * pr) hC dX11_sell_25 rfl ?_
  refine J_iadd (v := (g (76 + 5 * k)) + (many * pr)) hC dX11_sell_26 rfl ?_
  refine J_iast (i := 76 + 5 * k) (ws' := gW G b (upd (upd g (75 + 5 * k) ((g (75 + 5 * k)) + many)) (76 + 5 * k) ((g (76 + 5 * k)) + (many * pr)))) hC dX11_sell_27 0 rfl (by omega) (by decide) rfl ?_
  refine J_aload_n hC dX11_sell_28 1 rfl rfl ?_
  refine J_bipush (v := 13) hC dX11_sell_29 (by decide +kernel) ?_
  refine J_dup2 hC dX11_sell_31 rfl rfl ?_
  refine J_iald (i := 13) (v := g 13) hC dX11_sell_32 0 rfl (by omega) (by decide) ((pk_un (by omega)).trans (pk_un (by omega))) ?_
  refine J_iload_n hC dX11_sell_33 3 rfl rfl ?_
  refine J_iadd (v := (g 13) + many) hC dX11_sell_34 rfl ?_
  refine J_iast (i := 13) (ws' := gW G b (upd (upd (upd g (75 + 5 * k) ((g (75 + 5 * k)) + many)) (76 + 5 * k) ((g (76 + 5 * k)) + (many * pr))) 13 ((g 13) + many))) hC dX11_sell_35 0 rfl (by omega) (by decide) rfl ?_
  refine J_aload_n hC dX11_sell_36 1 rfl rfl ?_
  refine J_bipush (v := 15) hC dX11_sell_37 (by decide +kernel) ?_
  refine J_dup2 hC dX11_sell_39 rfl rfl ?_
  refine J_iald (i := 15) (v := g 15) hC dX11_sell_40 0 rfl (by omega) (by decide) ((pk_un (by omega)).trans ((pk_un (by omega)).trans (pk_un (by omega)))) ?_
  refine J_iload_n hC dX11_sell_41 3 rfl rfl ?_
  refine J_iload_n hC dX11_sell_42 4 rfl rfl ?_
  refine J_imul (v := many * pr) hC dX11_sell_43 rfl ?_
  refine J_iadd (v := (g 15) + (many * pr)) hC dX11_sell_44 rfl ?_
  refine J_iast (i := 15) (ws' := gW G b (upd (upd (upd (upd g (75 + 5 * k) ((g (75 + 5 * k)) + many)) (76 + 5 * k) ((g (76 + 5 * k)) + (many * pr))) 13 ((g 13) + many)) 15 ((g 15) + (many * pr)))) hC dX11_sell_45 0 rfl (by omega) (by decide) rfl ?_
  refine J_aload_n hC dX11_sell_46 1 rfl rfl ?_
  refine J_iconst (v := 4) hC dX11_sell_47 rfl ?_
  refine J_dup2 hC dX11_sell_48 rfl rfl ?_
  refine J_iald (i := 4) (v := g 4) hC dX11_sell_49 0 rfl (by omega) (by decide) ((pk_un (by omega)).trans ((pk_un (by omega)).trans ((pk_un (by omega)).trans (pk_un (by omega))))) ?_
  refine J_iload_n hC dX11_sell_50 3 rfl rfl ?_
  refine J_iload_n hC dX11_sell_51 4 rfl rfl ?_
  refine J_imul (v := many * pr) hC dX11_sell_52 rfl ?_
  refine J_iadd (v := (g 4) + (many * pr)) hC dX11_sell_53 rfl ?_
  refine J_iast (i := 4) (ws' := gW G b (upd (upd (upd (upd (upd g (75 + 5 * k) ((g (75 + 5 * k)) + many)) (76 + 5 * k) ((g (76 + 5 * k)) + (many * pr))) 13 ((g 13) + many)) 15 ((g 15) + (many * pr))) 4 ((g 4) + (many * pr)))) hC dX11_sell_54 0 rfl (by omega) (by decide) rfl ?_
  refine J_vret hC hR dX11_sell_55 () ?_ ?_ (by decide) (by decide)
  · trivial
  · rfl

set_option maxRecDepth 100000 in
set_option maxHeartbeats 4000000 in
theorem c_X11_wanted (l : Launch) (G : gT) (b : Nat) (w : Nat) (g : RT) (k : Nat) (hk : k < 30) (hw : w < 6) (hgw : g (72 + 5 * k) = nI w) : MI l yX11_wanted cX11_wanted 4 (some .int) { frames := 1, cells := 0, slots := 0, locals := 20 } [.ref (b), .int (nI k)] G (gW G b g) (fun r (_ : Unit) => r = m_wanted g k (vOf g k)) (fun _ => gW G b g) := by
  refine jm_i (own := RX11) (by decide) rfl (Nat.le_of_ble_eq_true rfl) (fun x hl hC hR hN => ?_)
  subst hl
  have hvo : vOf g k = w := by rw [vOf, hgw, nI_clamp (by omega)]
  refine J_aload_n hC dX11_wanted_0 0 rfl rfl ?_
  refine J_iload_n hC dX11_wanted_1 1 rfl rfl ?_
  refine J_callSi hC dX11_wanted_2 wl_X11_69 wi_X11 yi_X11_ofForecast (c_X11_ofForecast _ G (gW G b g) k) rfl rfl ⟨Nat.le_of_ble_eq_true rfl, Nat.le_of_ble_eq_true rfl⟩ (Nat.le_of_ble_eq_true rfl) (Nat.le_of_ble_eq_true rfl) (Nat.le_of_ble_eq_true rfl) (fun r u h_2 => ?_)
  subst h_2
  refine J_iconst (v := 0) hC dX11_wanted_5 rfl ?_
  refine J_iadd (v := nI (72 + 5 * k)) hC dX11_wanted_6 (Int32.add_zero _) ?_
  refine J_iald (i := 72 + 5 * k) (v := g (72 + 5 * k)) hC dX11_wanted_7 0 rfl (by omega) (by decide) rfl ?_
  refine J_topi hgw ?_
  refine J_callSi hC dX11_wanted_8 wl_X11_81 wi_X11 yi_X11_ofVillage (c_X11_ofVillage _ G (gW G b g) w) rfl rfl ⟨Nat.le_of_ble_eq_true rfl, Nat.le_of_ble_eq_true rfl⟩ (Nat.le_of_ble_eq_true rfl) (Nat.le_of_ble_eq_true rfl) (Nat.le_of_ble_eq_true rfl) (fun r u h_8 => ?_)
  subst h_8
  refine J_istore_n hC [(2, .int (nI (24 + 3 * w))), (0, .ref b), (1, .int (nI k))] dX11_wanted_11 rfl (by decide) rfl ?_
  refine J_aload_n hC dX11_wanted_12 1 rfl rfl ?_
  refine J_iload_n hC dX11_wanted_13 0 rfl rfl ?_
  refine J_iconst (v := 1) hC dX11_wanted_14 rfl ?_
  refine J_iadd (v := nI (25 + 3 * w)) hC dX11_wanted_15 ((nI_add (24 + 3 * w) 1).trans (congrArg nI (by omega))) ?_
  refine J_iald (i := 25 + 3 * w) (v := g (25 + 3 * w)) hC dX11_wanted_16 0 rfl (by omega) (by decide) rfl ?_
  refine J_aload_n hC dX11_wanted_17 1 rfl rfl ?_
  refine J_iload_n hC dX11_wanted_18 2 rfl rfl ?_
  refine J_callSi hC dX11_wanted_19 wl_X11_69 wi_X11 yi_X11_ofForecast (c_X11_ofForecast _ G (gW G b g) k) rfl rfl ⟨Nat.le_of_ble_eq_true rfl, Nat.le_of_ble_eq_true rfl⟩ (Nat.le_of_ble_eq_true rfl) (Nat.le_of_ble_eq_true rfl) (Nat.le_of_ble_eq_true rfl) (fun r u h_19 => ?_)
  subst h_19
  refine J_iconst (v := 3) hC dX11_wanted_22 rfl ?_
  refine J_iadd (v := nI (75 + 5 * k)) hC dX11_wanted_23 ((nI_add (72 + 5 * k) 3).trans (congrArg nI (by omega))) ?_
  refine J_iald (i := 75 + 5 * k) (v := g (75 + 5 * k)) hC dX11_wanted_24 0 rfl (by omega) (by decide) rfl ?_
  refine J_isub (v := (g (25 + 3 * w)) - (g (75 + 5 * k))) hC dX11_wanted_25 rfl ?_
  refine J_istore_n hC [(3, .int ((g (25 + 3 * w)) - (g (75 + 5 * k)))), (2, .int (nI (24 + 3 * w))), (0, .ref b), (1, .int (nI k))] dX11_wanted_26 rfl (by decide) rfl ?_
  refine J_iload_n hC dX11_wanted_27 0 rfl rfl ?_
  refine J_if_le (tgt := 44) hC dX11_wanted_28 (by decide) (fun (c_28 : ((g (25 + 3 * w)) - (g (75 + 5 * k))) ≤ 0) => ?_) (fun (c_28 : ¬ ((g (25 + 3 * w)) - (g (75 + 5 * k))) ≤ 0) => ?_)
  · refine J_iconst (v := 0) hC dX11_wanted_44 rfl ?_
    refine J_iret hC hR dX11_wanted_45 rfl () ?_ ?_ (by decide) (by decide)
    · rw [hvo, m_wanted, if_pos c_28]
    · rfl
  · refine J_iload_n hC dX11_wanted_31 0 rfl rfl ?_
    refine J_aload_n hC dX11_wanted_32 2 rfl rfl ?_
    refine J_iload_n hC dX11_wanted_33 1 rfl rfl ?_
    refine J_iconst (v := 2) hC dX11_wanted_34 rfl ?_
    refine J_iadd (v := nI (26 + 3 * w)) hC dX11_wanted_35 ((nI_add (24 + 3 * w) 2).trans (congrArg nI (by omega))) ?_
    refine J_iald (i := 26 + 3 * w) (v := g (26 + 3 * w)) hC dX11_wanted_36 0 rfl (by omega) (by decide) rfl ?_
    refine J_imul (v := ((g (25 + 3 * w)) - (g (75 + 5 * k))) * (g (26 + 3 * w))) hC dX11_wanted_37 rfl ?_
    refine J_bipush (v := 100) hC dX11_wanted_38 (by decide +kernel) ?_
    refine J_idiv (v := (((g (25 + 3 * w)) - (g (75 + 5 * k))) * (g (26 + 3 * w))) / 100) hC dX11_wanted_40 (by decide) rfl ?_
    refine J_goto (tgt := 45) hC dX11_wanted_41 (by decide) ?_
    refine J_iret hC hR dX11_wanted_45 rfl () ?_ ?_ (by decide) (by decide)
    · rw [hvo, m_wanted, if_neg c_28]
    · rfl

set_option maxRecDepth 100000 in
set_option maxHeartbeats 4000000 in
theorem c_X11_holdFair (l : Launch) (G : gT) (b : Nat) (g : RT) (bc : Nat) (f : Nat) (hbc : g 8 = nI bc) (bbc : bc ≤ 30) (hf : f < 6) (hvs : ∀ k, k < bc → ∃ w, w < 6 ∧ g (72 + 5 * k) = nI w) : MV l yX11_holdFair cX11_holdFair 6 { frames := 2, cells := 0, slots := 0, locals := 44 } [.ref (b), .int (nI f)] G (gW G b g) (fun (_ : Unit) => True) (fun _ => gW G b (m_holdFair g f bc)) := by
  refine jm_v (own := RX11) (by decide) rfl (Nat.le_of_ble_eq_true rfl) (fun x hl hC hR hN => ?_)
  subst hl
  have key : ∀ fuel : Nat, (∀ (i : Nat) (T : RT) (left : Int32), (i ≤ bc) → (T 8 = nI bc) → (∀ k, k < bc → ∃ w, w < 6 ∧ T (72 + 5 * k) = nI w) → (m_holdFair g f bc = (fo (m_holdB f) i (bc - i) (T, left)).1) → bc - i < fuel → J x G (gW G b T) 0 0 [(0, .ref b), (1, .int (nI f)), (2, .int (nI (42 + 5 * f))), (3, .int left), (4, .int (nI i))] [] 14) := by
    intro fuel
    induction fuel with
    | zero => exact fun _ _ _ _ _ _ _ h => absurd h (Nat.not_lt_zero _)
    | succ fuel ih =>
      intro i T left hi hTb hTv hI hmu
      refine J_iload hC dX11_holdFair_14 4 rfl ?_
      refine J_aload_n hC dX11_holdFair_16 0 rfl rfl ?_
      refine J_bipush (v := 8) hC dX11_holdFair_17 (by decide +kernel) ?_
      refine J_iald (i := 8) (v := T 8) hC dX11_holdFair_19 0 rfl (by omega) (by decide) rfl ?_
      refine J_topi hTb ?_
      refine J_ic_geN (a := i) (b := bc) (tgt := 96) hC dX11_holdFair_20 (by decide) (by omega) (by omega) (fun (c_20 : bc ≤ i) => ?_) (fun (c_20 : i < bc) => ?_)
      · refine J_vret hC hR dX11_holdFair_96 () ?_ ?_ (by decide) (by decide)
        · trivial
        · rw [hI, fo_done c_20]
      · refine J_aload_n hC dX11_holdFair_23 0 rfl rfl ?_
        refine J_iload hC dX11_holdFair_24 4 rfl ?_
        refine J_callSi hC dX11_holdFair_26 wl_X11_69 wi_X11 yi_X11_ofForecast (c_X11_ofForecast _ G (gW G b T) i) rfl rfl ⟨Nat.le_of_ble_eq_true rfl, Nat.le_of_ble_eq_true rfl⟩ (Nat.le_of_ble_eq_true rfl) (Nat.le_of_ble_eq_true rfl) (Nat.le_of_ble_eq_true rfl) (fun r u h_26 => ?_)
        subst h_26
        refine J_iconst (v := 0) hC dX11_holdFair_29 rfl ?_
        refine J_iadd (v := nI (72 + 5 * i)) hC dX11_holdFair_30 (Int32.add_zero _) ?_
        refine J_iald (i := 72 + 5 * i) (v := T (72 + 5 * i)) hC dX11_holdFair_31 0 rfl (by omega) (by decide) rfl ?_
        refine J_aload_n hC dX11_holdFair_32 0 rfl rfl ?_
        refine J_iload_n hC dX11_holdFair_33 2 rfl rfl ?_
        refine J_iconst (v := 1) hC dX11_holdFair_34 rfl ?_
        refine J_iadd (v := nI (43 + 5 * f)) hC dX11_holdFair_35 ((nI_add (42 + 5 * f) 1).trans (congrArg nI (by omega))) ?_
        refine J_iald (i := 43 + 5 * f) (v := T (43 + 5 * f)) hC dX11_holdFair_36 0 rfl (by omega) (by decide) rfl ?_
        refine J_ic_ne (tgt := 90) hC dX11_holdFair_37 (by decide) (fun (c_37 : ¬ (T (72 + 5 * i)) = (T (43 + 5 * f))) => ?_) (fun (c_37 : (T (72 + 5 * i)) = (T (43 + 5 * f))) => ?_)
        · refine J_iinc hC [(4, .int (nI (i + 1))), (0, .ref b), (1, .int (nI f)), (2, .int (nI (42 + 5 * f))), (3, .int left)] dX11_holdFair_90 4 rfl (nI_inc _) (by decide) rfl ?_
          refine J_goto (tgt := 14) hC dX11_holdFair_93 (by decide) ?_
          refine J_lv (lv' := [(0, .ref b), (1, .int (nI f)), (2, .int (nI (42 + 5 * f))), (3, .int left), (4, .int (nI (i + 1)))]) [1, 2, 3, 4, 0] rfl ?_
          exact ih (i + 1) T left (by omega) (hTb) (hTv) (hI.trans (congrArg Prod.fst ((fo_step c_20).trans (congrArg _ (by rw [m_holdB, if_neg c_37]))))) (by omega)
        · refine J_aload_n hC dX11_holdFair_40 0 rfl rfl ?_
          refine J_iload hC dX11_holdFair_41 4 rfl ?_
          refine J_callSi hC dX11_holdFair_43 wl_X11_69 wi_X11 yi_X11_ofForecast (c_X11_ofForecast _ G (gW G b T) i) rfl rfl ⟨Nat.le_of_ble_eq_true rfl, Nat.le_of_ble_eq_true rfl⟩ (Nat.le_of_ble_eq_true rfl) (Nat.le_of_ble_eq_true rfl) (Nat.le_of_ble_eq_true rfl) (fun r u h_43 => ?_)
          subst h_43
          refine J_iconst (v := 1) hC dX11_holdFair_46 rfl ?_
          refine J_iadd (v := nI (73 + 5 * i)) hC dX11_holdFair_47 ((nI_add (72 + 5 * i) 1).trans (congrArg nI (by omega))) ?_
          refine J_iald (i := 73 + 5 * i) (v := T (73 + 5 * i)) hC dX11_holdFair_48 0 rfl (by omega) (by decide) rfl ?_
          refine J_aload_n hC dX11_holdFair_49 0 rfl rfl ?_
          refine J_iconst (v := 5) hC dX11_holdFair_50 rfl ?_
          refine J_iald (i := 5) (v := T 5) hC dX11_holdFair_51 0 rfl (by omega) (by decide) rfl ?_
          refine J_ic_le (tgt := 90) hC dX11_holdFair_52 (by decide) (fun (c_52 : (T (73 + 5 * i)) ≤ (T 5)) => ?_) (fun (c_52 : ¬ (T (73 + 5 * i)) ≤ (T 5)) => ?_)
          · refine J_iinc hC [(4, .int (nI (i + 1))), (0, .ref b), (1, .int (nI f)), (2, .int (nI (42 + 5 * f))), (3, .int left)] dX11_holdFair_90 4 rfl (nI_inc _) (by decide) rfl ?_
            refine J_goto (tgt := 14) hC dX11_holdFair_93 (by decide) ?_
            refine J_lv (lv' := [(0, .ref b), (1, .int (nI f)), (2, .int (nI (42 + 5 * f))), (3, .int left), (4, .int (nI (i + 1)))]) [1, 2, 3, 4, 0] rfl ?_
            exact ih (i + 1) T left (by omega) (hTb) (hTv) (hI.trans (congrArg Prod.fst ((fo_step c_20).trans (congrArg _ (by rw [m_holdB, if_pos c_37, if_pos c_52]))))) (by omega)
          · obtain ⟨w, hw, hgw⟩ := hTv i (by omega)
            refine J_aload_n hC dX11_holdFair_55 0 rfl rfl ?_
            refine J_iload hC dX11_holdFair_56 4 rfl ?_
            refine J_callSi hC dX11_holdFair_58 wl_X11_101 wi_X11 yi_X11_wanted (c_X11_wanted _ G b w T i (by omega) (by omega) (hgw)) rfl rfl ⟨Nat.le_of_ble_eq_true rfl, Nat.le_of_ble_eq_true rfl⟩ (Nat.le_of_ble_eq_true rfl) (Nat.le_of_ble_eq_true rfl) (Nat.le_of_ble_eq_true rfl) (fun r u h_58 => ?_)
            subst h_58
            refine J_istore hC [(5, .int (m_wanted T i (vOf T i))), (0, .ref b), (1, .int (nI f)), (2, .int (nI (42 + 5 * f))), (3, .int left), (4, .int (nI i))] dX11_holdFair_61 (by decide) rfl ?_
            refine J_iload hC dX11_holdFair_63 0 rfl ?_
            refine J_iload_n hC dX11_holdFair_65 4 rfl rfl ?_
            refine J_ic_le (tgt := 72) hC dX11_holdFair_66 (by decide) (fun (c_66 : (m_wanted T i (vOf T i)) ≤ left) => ?_) (fun (c_66 : ¬ (m_wanted T i (vOf T i)) ≤ left) => ?_)
            · refine J_aload_n hC dX11_holdFair_72 1 rfl rfl ?_
              refine J_iload hC dX11_holdFair_73 5 rfl ?_
              refine J_iload hC dX11_holdFair_75 0 rfl ?_
              refine J_aload_n hC dX11_holdFair_77 1 rfl rfl ?_
              refine J_iload_n hC dX11_holdFair_78 3 rfl rfl ?_
              refine J_iconst (v := 4) hC dX11_holdFair_79 rfl ?_
              refine J_iadd (v := nI (46 + 5 * f)) hC dX11_holdFair_80 ((nI_add (42 + 5 * f) 4).trans (congrArg nI (by omega))) ?_
              refine J_iald (i := 46 + 5 * f) (v := T (46 + 5 * f)) hC dX11_holdFair_81 0 rfl (by omega) (by decide) rfl ?_
              refine J_callSv hC dX11_holdFair_82 wl_X11_104 wi_X11 yi_X11_sell (c_X11_sell _ G b T i (m_wanted T i (vOf T i)) (T (46 + 5 * f)) (by omega)) rfl rfl ⟨Nat.le_of_ble_eq_true rfl, Nat.le_of_ble_eq_true rfl⟩ (Nat.le_of_ble_eq_true rfl) (Nat.le_of_ble_eq_true rfl) (Nat.le_of_ble_eq_true rfl) (fun _ _ => ?_)
              refine J_iload_n hC dX11_holdFair_85 4 rfl rfl ?_
              refine J_iload hC dX11_holdFair_86 0 rfl ?_
              refine J_isub (v := left - (m_wanted T i (vOf T i))) hC dX11_holdFair_88 rfl ?_
              refine J_istore_n hC [(3, .int (left - (m_wanted T i (vOf T i)))), (5, .int (m_wanted T i (vOf T i))), (0, .ref b), (1, .int (nI f)), (2, .int (nI (42 + 5 * f))), (4, .int (nI i))] dX11_holdFair_89 rfl (by decide) rfl ?_
              refine J_iinc hC [(4, .int (nI (i + 1))), (3, .int (left - (m_wanted T i (vOf T i)))), (5, .int (m_wanted T i (vOf T i))), (0, .ref b), (1, .int (nI f)), (2, .int (nI (42 + 5 * f)))] dX11_holdFair_90 5 rfl (nI_inc _) (by decide) rfl ?_
              refine J_goto (tgt := 14) hC dX11_holdFair_93 (by decide) ?_
              refine J_lv (lv' := [(0, .ref b), (1, .int (nI f)), (2, .int (nI (42 + 5 * f))), (3, .int (left - (m_wanted T i (vOf T i)))), (4, .int (nI (i + 1)))]) [3, 4, 5, 1, 0] rfl ?_
              exact ih (i + 1) (m_sell T i (m_wanted T i (vOf T i)) (T (46 + 5 * f))) (left - (m_wanted T i (vOf T i))) (by omega) ((m_sell_lo _ _ _ _ 8 (by decide) (by omega) (by omega)).trans (hTb)) (fun k hk => by obtain ⟨w9, h9, e9⟩ := hTv k hk; exact ⟨w9, h9, (m_sell_lo _ _ _ _ _ (by omega) (by omega) (by omega)).trans e9⟩) (hI.trans (congrArg Prod.fst ((fo_step c_20).trans (congrArg _ (by rw [m_holdB, if_pos c_37, if_neg c_52, m_many, if_pos c_66]))))) (by omega)
            · refine J_iload_n hC dX11_holdFair_69 4 rfl rfl ?_
              refine J_istore hC [(5, .int left), (0, .ref b), (1, .int (nI f)), (2, .int (nI (42 + 5 * f))), (3, .int left), (4, .int (nI i))] dX11_holdFair_70 (by decide) rfl ?_
              refine J_aload_n hC dX11_holdFair_72 1 rfl rfl ?_
              refine J_iload hC dX11_holdFair_73 5 rfl ?_
              refine J_iload hC dX11_holdFair_75 0 rfl ?_
              refine J_aload_n hC dX11_holdFair_77 1 rfl rfl ?_
              refine J_iload_n hC dX11_holdFair_78 3 rfl rfl ?_
              refine J_iconst (v := 4) hC dX11_holdFair_79 rfl ?_
              refine J_iadd (v := nI (46 + 5 * f)) hC dX11_holdFair_80 ((nI_add (42 + 5 * f) 4).trans (congrArg nI (by omega))) ?_
              refine J_iald (i := 46 + 5 * f) (v := T (46 + 5 * f)) hC dX11_holdFair_81 0 rfl (by omega) (by decide) rfl ?_
              refine J_callSv hC dX11_holdFair_82 wl_X11_104 wi_X11 yi_X11_sell (c_X11_sell _ G b T i left (T (46 + 5 * f)) (by omega)) rfl rfl ⟨Nat.le_of_ble_eq_true rfl, Nat.le_of_ble_eq_true rfl⟩ (Nat.le_of_ble_eq_true rfl) (Nat.le_of_ble_eq_true rfl) (Nat.le_of_ble_eq_true rfl) (fun _ _ => ?_)
              refine J_iload_n hC dX11_holdFair_85 4 rfl rfl ?_
              refine J_iload hC dX11_holdFair_86 0 rfl ?_
              refine J_isub (v := left - left) hC dX11_holdFair_88 rfl ?_
              refine J_istore_n hC [(3, .int (left - left)), (5, .int left), (0, .ref b), (1, .int (nI f)), (2, .int (nI (42 + 5 * f))), (4, .int (nI i))] dX11_holdFair_89 rfl (by decide) rfl ?_
              refine J_iinc hC [(4, .int (nI (i + 1))), (3, .int (left - left)), (5, .int left), (0, .ref b), (1, .int (nI f)), (2, .int (nI (42 + 5 * f)))] dX11_holdFair_90 5 rfl (nI_inc _) (by decide) rfl ?_
              refine J_goto (tgt := 14) hC dX11_holdFair_93 (by decide) ?_
              refine J_lv (lv' := [(0, .ref b), (1, .int (nI f)), (2, .int (nI (42 + 5 * f))), (3, .int (left - left)), (4, .int (nI (i + 1)))]) [3, 4, 5, 1, 0] rfl ?_
              exact ih (i + 1) (m_sell T i left (T (46 + 5 * f))) (left - left) (by omega) ((m_sell_lo _ _ _ _ 8 (by decide) (by omega) (by omega)).trans (hTb)) (fun k hk => by obtain ⟨w9, h9, e9⟩ := hTv k hk; exact ⟨w9, h9, (m_sell_lo _ _ _ _ _ (by omega) (by omega) (by omega)).trans e9⟩) (hI.trans (congrArg Prod.fst ((fo_step c_20).trans (congrArg _ (by rw [m_holdB, if_pos c_37, if_neg c_52, m_many, if_neg c_66]))))) (by omega)
  refine J_iload_n hC dX11_holdFair_0 1 rfl rfl ?_
  refine J_callSi hC dX11_holdFair_1 wl_X11_98 wi_X11 yi_X11_ofFair (c_X11_ofFair _ G (gW G b g) f) rfl rfl ⟨Nat.le_of_ble_eq_true rfl, Nat.le_of_ble_eq_true rfl⟩ (Nat.le_of_ble_eq_true rfl) (Nat.le_of_ble_eq_true rfl) (Nat.le_of_ble_eq_true rfl) (fun r u h_1 => ?_)
  subst h_1
  refine J_istore_n hC [(2, .int (nI (42 + 5 * f))), (0, .ref b), (1, .int (nI f))] dX11_holdFair_4 rfl (by decide) rfl ?_
  refine J_aload_n hC dX11_holdFair_5 1 rfl rfl ?_
  refine J_iload_n hC dX11_holdFair_6 0 rfl rfl ?_
  refine J_iconst (v := 3) hC dX11_holdFair_7 rfl ?_
  refine J_iadd (v := nI (45 + 5 * f)) hC dX11_holdFair_8 ((nI_add (42 + 5 * f) 3).trans (congrArg nI (by omega))) ?_
  refine J_iald (i := 45 + 5 * f) (v := g (45 + 5 * f)) hC dX11_holdFair_9 0 rfl (by omega) (by decide) rfl ?_
  refine J_istore_n hC [(3, .int (g (45 + 5 * f))), (2, .int (nI (42 + 5 * f))), (0, .ref b), (1, .int (nI f))] dX11_holdFair_10 rfl (by decide) rfl ?_
  refine J_iconst (v := 0) hC dX11_holdFair_11 rfl ?_
  refine J_istore hC [(4, .int 0), (3, .int (g (45 + 5 * f))), (2, .int (nI (42 + 5 * f))), (0, .ref b), (1, .int (nI f))] dX11_holdFair_12 (by decide) rfl ?_
  refine J_lv (lv' := [(0, .ref b), (1, .int (nI f)), (2, .int (nI (42 + 5 * f))), (3, .int (g (45 + 5 * f))), (4, .int 0)]) [3, 4, 2, 1, 0] rfl ?_
  exact (key _) 0 g (g (45 + 5 * f)) (by omega) (hbc) (hvs) (rfl) (Nat.lt_succ_self _)

set_option maxRecDepth 100000 in
set_option maxHeartbeats 4000000 in
theorem c_X11_retracts (l : Launch) (G : gT) (b : Nat) (g : RT) (bc : Nat) (pg : Nat) (hbc : g 8 = nI bc) (bbc : bc ≤ 30) (hpg : 4 * pg < bc) (hvs : ∀ k, k < bc → ∃ w, w < 6 ∧ g (72 + 5 * k) = nI w) : MI l yX11_retracts cX11_retracts 4 (some .int) { frames := 2, cells := 0, slots := 0, locals := 45 } [.ref (b), .int (nI pg)] G (gW G b g) (fun r (_ : Unit) => r = m_refund g pg bc) (fun _ => gW G b (m_retracts g pg bc)) := by
  refine jm_i (own := RX11) (by decide) rfl (Nat.le_of_ble_eq_true rfl) (fun x hl hC hR hN => ?_)
  subst hl
  have key : ∀ fuel : Nat, (∀ (n : Nat) (bb : Nat) (T : RT), (4 * pg + n ≤ bb ∧ bb ≤ 30) → (T 8 = nI bb) → (∀ k, k < 4 * pg + n → ∃ w, w < 6 ∧ T (72 + 5 * k) = nI w) → (m_retracts g pg bc = m_retL (4 * pg) n bb T) → n < fuel → J x G (gW G b T) 0 0 [(0, .ref b), (1, .int (nI pg)), (2, .int (m_refund g pg bc)), (3, .int (nI (4 * pg + n) - 1))] [] 19) := by
    intro fuel
    induction fuel with
    | zero => exact fun _ _ _ _ _ _ _ h => absurd h (Nat.not_lt_zero _)
    | succ fuel ih =>
      intro n bb T hn hTb hTv hI hmu
      rcases Nat.eq_zero_or_pos n with h0 | h0
      · refine J_iload_n hC dX11_retracts_19 3 rfl rfl ?_
        refine J_iconst (v := 4) hC dX11_retracts_20 rfl ?_
        refine J_iload_n hC dX11_retracts_21 1 rfl rfl ?_
        refine J_imul (v := nI (4 * pg)) hC dX11_retracts_22 (pk_mul 4 pg) ?_
        refine J_ic_lt (tgt := 59) hC dX11_retracts_23 (by decide) (fun (c_23 : (nI (4 * pg + n) - 1) < (nI (4 * pg))) => ?_) (fun (c_23 : ¬ (nI (4 * pg + n) - 1) < (nI (4 * pg))) => ?_)
        · refine J_iload_n hC dX11_retracts_59 2 rfl rfl ?_
          refine J_iret hC hR dX11_retracts_60 rfl () ?_ ?_ (by decide) (by decide)
          · rfl
          · subst h0; rw [hI]; rfl
        · exact absurd (lt_m1 (by omega) (by omega)) c_23
      · obtain ⟨q, rfl⟩ : ∃ q, n = q + 1 := ⟨n - 1, by omega⟩
        obtain ⟨k, hk⟩ : ∃ k, k = 4 * pg + q := ⟨_, rfl⟩
        obtain ⟨w, hw, hgw⟩ := hTv k (by omega)
        have hvo : vOf T k = w := by rw [vOf, hgw, nI_clamp (by omega)]
        refine J_lvq (lv' := [(0, .ref b), (1, .int (nI pg)), (2, .int (m_refund g pg bc)), (3, .int (nI k))]) (by rw [show nI (4 * pg + (q + 1)) - 1 = nI k from (pk_sub (b := 1) (by omega)).trans (congrArg nI (by omega))]) ?_
        refine J_iload_n hC dX11_retracts_19 3 rfl rfl ?_
        refine J_iconst (v := 4) hC dX11_retracts_20 rfl ?_
        refine J_iload_n hC dX11_retracts_21 1 rfl rfl ?_
        refine J_imul (v := nI (4 * pg)) hC dX11_retracts_22 (pk_mul 4 pg) ?_
        refine J_ic_ltN (a := k) (b := 4 * pg) (tgt := 59) hC dX11_retracts_23 (by decide) (by omega) (by omega) (fun (c_23 : k < (4 * pg)) => ?_) (fun (c_23 : (4 * pg) ≤ k) => ?_)
        · exfalso; omega
        · refine J_aload_n hC dX11_retracts_26 0 rfl rfl ?_
          refine J_aload_n hC dX11_retracts_27 0 rfl rfl ?_
          refine J_iload_n hC dX11_retracts_28 3 rfl rfl ?_
          refine J_callSi hC dX11_retracts_29 wl_X11_69 wi_X11 yi_X11_ofForecast (c_X11_ofForecast _ G (gW G b T) k) rfl rfl ⟨Nat.le_of_ble_eq_true rfl, Nat.le_of_ble_eq_true rfl⟩ (Nat.le_of_ble_eq_true rfl) (Nat.le_of_ble_eq_true rfl) (Nat.le_of_ble_eq_true rfl) (fun r u h_29 => ?_)
          subst h_29
          refine J_iconst (v := 0) hC dX11_retracts_32 rfl ?_
          refine J_iadd (v := nI (72 + 5 * k)) hC dX11_retracts_33 (Int32.add_zero _) ?_
          refine J_iald (i := 72 + 5 * k) (v := T (72 + 5 * k)) hC dX11_retracts_34 0 rfl (by omega) (by decide) rfl ?_
          refine J_topi hgw ?_
          refine J_bipush (v := (-5)) hC dX11_retracts_35 (by decide +kernel) ?_
          refine J_callSv hC dX11_retracts_37 wl_X11_91 wi_X11 yi_X11_addTrust (c_X11_addTrust _ G b T w (-5) (by omega)) rfl rfl ⟨Nat.le_of_ble_eq_true rfl, Nat.le_of_ble_eq_true rfl⟩ (Nat.le_of_ble_eq_true rfl) (Nat.le_of_ble_eq_true rfl) (Nat.le_of_ble_eq_true rfl) (fun _ _ => ?_)
          refine J_aload_n hC dX11_retracts_40 0 rfl rfl ?_
          refine J_bipush (v := 12) hC dX11_retracts_41 (by decide +kernel) ?_
          refine J_dup2 hC dX11_retracts_43 rfl rfl ?_
          refine J_iald (i := 12) (v := (m_addTrust T w (-5)) 12) hC dX11_retracts_44 0 rfl (by omega) (by decide) rfl ?_
          refine J_iconst (v := 1) hC dX11_retracts_45 rfl ?_
          refine J_iadd (v := ((m_addTrust T w (-5)) 12) + 1) hC dX11_retracts_46 rfl ?_
          refine J_iast (i := 12) (ws' := gW G b (upd (m_addTrust T w (-5)) 12 (((m_addTrust T w (-5)) 12) + 1))) hC dX11_retracts_47 0 rfl (by omega) (by decide) rfl ?_
          refine J_aload_n hC dX11_retracts_48 0 rfl rfl ?_
          refine J_iload_n hC dX11_retracts_49 3 rfl rfl ?_
          refine J_callSv hC dX11_retracts_50 wl_X11_95 wi_X11 yi_X11_dropForecast (c_X11_dropForecast _ G b (upd (m_addTrust T w (-5)) 12 (((m_addTrust T w (-5)) 12) + 1)) bb k (((pk_un (by omega))).trans ((pk_un (by omega)).trans (hTb))) (by omega) (by omega)) rfl rfl ⟨Nat.le_of_ble_eq_true rfl, Nat.le_of_ble_eq_true rfl⟩ (Nat.le_of_ble_eq_true rfl) (Nat.le_of_ble_eq_true rfl) (Nat.le_of_ble_eq_true rfl) (fun _ _ => ?_)
          refine J_iinc hC [(3, .int ((nI k) + (-1))), (0, .ref b), (1, .int (nI pg)), (2, .int (m_refund g pg bc))] dX11_retracts_53 3 rfl (i_inc (by decide +kernel)) (by decide) rfl ?_
          refine J_lvq (lv' := [(3, .int (nI (4 * pg + q) - 1)), (0, .ref b), (1, .int (nI pg)), (2, .int (m_refund g pg bc))]) (by rw [i_m1, hk]) ?_
          refine J_goto (tgt := 19) hC dX11_retracts_56 (by decide) ?_
          refine J_lv (lv' := [(0, .ref b), (1, .int (nI pg)), (2, .int (m_refund g pg bc)), (3, .int (nI (4 * pg + q) - 1))]) [1, 2, 3, 0] rfl ?_
          exact ih q (bb - 1) (m_drop (upd (m_addTrust T w (-5)) 12 (((m_addTrust T w (-5)) 12) + 1)) k bb) (by omega) ((m_drop_at _ _ _ _).trans ((if_neg (by omega)).trans (if_pos rfl))) (fun k9 hk9 => by obtain ⟨w9, h9, e9⟩ := hTv k9 (by omega); exact ⟨w9, h9, (m_drop_lo _ _ _ _ (by omega) (by omega) (by omega)).trans ((pk_un (by omega)).trans ((pk_un (by omega)).trans e9))⟩) (hI.trans (by rw [m_retL, ← hk, m_ret1, hvo])) (by omega)
  refine J_aload_n hC dX11_retracts_0 0 rfl rfl ?_
  refine J_iload_n hC dX11_retracts_1 1 rfl rfl ?_
  refine J_callSi hC dX11_retracts_2 wl_X11_84 wi_X11 yi_X11_refund (c_X11_refund _ G b g bc pg (hbc) (by omega) (by omega)) rfl rfl ⟨Nat.le_of_ble_eq_true rfl, Nat.le_of_ble_eq_true rfl⟩ (Nat.le_of_ble_eq_true rfl) (Nat.le_of_ble_eq_true rfl) (Nat.le_of_ble_eq_true rfl) (fun r u h_2 => ?_)
  subst h_2
  refine J_istore_n hC [(2, .int (m_refund g pg bc)), (0, .ref b), (1, .int (nI pg))] dX11_retracts_5 rfl (by decide) rfl ?_
  refine J_aload_n hC dX11_retracts_6 1 rfl rfl ?_
  refine J_iload_n hC dX11_retracts_7 0 rfl rfl ?_
  refine J_callSv hC dX11_retracts_8 wl_X11_87 wi_X11 yi_X11_payBack (c_X11_payBack _ G b g (m_refund g pg bc)) rfl rfl ⟨Nat.le_of_ble_eq_true rfl, Nat.le_of_ble_eq_true rfl⟩ (Nat.le_of_ble_eq_true rfl) (Nat.le_of_ble_eq_true rfl) (Nat.le_of_ble_eq_true rfl) (fun _ _ => ?_)
  refine J_aload_n hC dX11_retracts_11 1 rfl rfl ?_
  refine J_iload_n hC dX11_retracts_12 2 rfl rfl ?_
  refine J_callSi hC dX11_retracts_13 wl_X11_77 wi_X11 yi_X11_pageEnd (c_X11_pageEnd _ G b (m_payBack g (m_refund g pg bc)) bc pg (((pk_un (by decide)).trans (pk_un (by decide))).trans (hbc)) (by omega) (by omega)) rfl rfl ⟨Nat.le_of_ble_eq_true rfl, Nat.le_of_ble_eq_true rfl⟩ (Nat.le_of_ble_eq_true rfl) (Nat.le_of_ble_eq_true rfl) (Nat.le_of_ble_eq_true rfl) (fun r u h_13 => ?_)
  subst h_13
  refine J_iconst (v := 1) hC dX11_retracts_16 rfl ?_
  refine J_isub (v := (nI (min bc (4 * pg + 4))) - 1) hC dX11_retracts_17 rfl ?_
  refine J_topi (w := nI (4 * pg + (min bc (4 * pg + 4) - 4 * pg)) - 1) (by rw [show 4 * pg + (min bc (4 * pg + 4) - 4 * pg) = min bc (4 * pg + 4) by omega]) ?_
  refine J_istore_n hC [(3, .int (nI (4 * pg + (min bc (4 * pg + 4) - 4 * pg)) - 1)), (2, .int (m_refund g pg bc)), (0, .ref b), (1, .int (nI pg))] dX11_retracts_18 rfl (by decide) rfl ?_
  refine J_lv (lv' := [(0, .ref b), (1, .int (nI pg)), (2, .int (m_refund g pg bc)), (3, .int (nI (4 * pg + (min bc (4 * pg + 4) - 4 * pg)) - 1))]) [2, 3, 1, 0] rfl ?_
  exact (key _) (min bc (4 * pg + 4) - 4 * pg) bc (m_payBack g (m_refund g pg bc)) (by omega) (((pk_un (by decide)).trans (pk_un (by decide))).trans (hbc)) (fun k hk => by obtain ⟨w9, h9, e9⟩ := hvs k (by omega); exact ⟨w9, h9, ((pk_un (by omega)).trans (pk_un (by omega))).trans e9⟩) (rfl) (Nat.lt_succ_self _)

set_option maxRecDepth 100000 in
set_option maxHeartbeats 4000000 in
theorem c_X11_regret (l : Launch) (G : gT) (b : Nat) (g : RT) (mc : Nat) (v : Int32) (hmc : g 9 = nI mc) (bmc : mc ≤ 10) : MV l yX11_regret cX11_regret 3 { frames := 1, cells := 0, slots := 0, locals := 20 } [.ref (b), .int v] G (gW G b g) (fun (_ : Unit) => True) (fun _ => gW G b (m_regret g v mc)) := by
  refine jm_v (own := RX11) (by decide) rfl (Nat.le_of_ble_eq_true rfl) (fun x hl hC hR hN => ?_)
  subst hl
  have key : ∀ fuel : Nat, (∀ (i : Nat) (T : RT), (mc = 10) → (222 ≤ i ∧ i ≤ 240) → (T 9 = nI 9) → (m_regret0 g mc = fo m_sh2 i (240 - i) T) → 241 - i < fuel → J x G (gW G b T) 0 0 [(0, .ref b), (1, .int v), (2, .int (nI i))] [] 21) ∧ (∀ (q : Nat) (T : RT), (q = min mc 9) → (T 9 = nI q) → (T = m_regret0 g mc) → 0 < fuel → J x G (gW G b T) 0 0 [(0, .ref b), (1, .int v)] [] 46) := by
    intro fuel
    induction fuel with
    | zero => exact ⟨fun _ _ _ _ _ _ h => absurd h (Nat.not_lt_zero _), fun _ _ _ _ _ h => absurd h (Nat.not_lt_zero _)⟩
    | succ fuel ih =>
      refine ⟨?_, ?_⟩
      · intro i T hm10 hi hT9 hI hmu
        refine J_iload_n hC dX11_regret_21 2 rfl rfl ?_
        refine J_aload_n hC dX11_regret_22 0 rfl rfl ?_
        refine J_bipush (v := 9) hC dX11_regret_23 (by decide +kernel) ?_
        refine J_iald (i := 9) (v := T 9) hC dX11_regret_25 0 rfl (by omega) (by decide) rfl ?_
        refine J_topi hT9 ?_
        refine J_callSi hC dX11_regret_26 wl_X11_112 wi_X11 yi_X11_ofRegret (c_X11_ofRegret _ G (gW G b T) 9) rfl rfl ⟨Nat.le_of_ble_eq_true rfl, Nat.le_of_ble_eq_true rfl⟩ (Nat.le_of_ble_eq_true rfl) (Nat.le_of_ble_eq_true rfl) (Nat.le_of_ble_eq_true rfl) (fun r u h_26 => ?_)
        subst h_26
        refine J_ic_geN (a := i) (b := 222 + 2 * 9) (tgt := 46) hC dX11_regret_29 (by decide) (by omega) (by omega) (fun (c_29 : (222 + 2 * 9) ≤ i) => ?_) (fun (c_29 : i < (222 + 2 * 9)) => ?_)
        · refine J_lv (lv' := [(0, .ref b), (1, .int v)]) [0, 1] rfl ?_
          exact ih.2 9 T (by omega) (hT9) (by rw [hI, fo_done c_29]) (by omega)
        · refine J_aload_n hC dX11_regret_32 0 rfl rfl ?_
          refine J_iload_n hC dX11_regret_33 2 rfl rfl ?_
          refine J_aload_n hC dX11_regret_34 0 rfl rfl ?_
          refine J_iload_n hC dX11_regret_35 2 rfl rfl ?_
          refine J_iconst (v := 2) hC dX11_regret_36 rfl ?_
          refine J_iadd (v := nI (2 + i)) hC dX11_regret_37 ((nI_add i 2).trans (congrArg nI (by omega))) ?_
          refine J_iald (i := 2 + i) (v := T (2 + i)) hC dX11_regret_38 0 rfl (by omega) (by decide) rfl ?_
          refine J_iast (i := i) (ws' := gW G b (upd T i (T (2 + i)))) hC dX11_regret_39 0 rfl (by omega) (by decide) rfl ?_
          refine J_iinc hC [(2, .int (nI (i + 1))), (0, .ref b), (1, .int v)] dX11_regret_40 2 rfl (nI_inc _) (by decide) rfl ?_
          refine J_goto (tgt := 21) hC dX11_regret_43 (by decide) ?_
          refine J_lv (lv' := [(0, .ref b), (1, .int v), (2, .int (nI (i + 1)))]) [1, 2, 0] rfl ?_
          exact ih.1 (i + 1) (upd T i (T (2 + i))) (hm10) (by omega) (((pk_un (by omega))).trans (hT9)) (hI.trans ((fo_step c_29).trans (congrArg _ (by rw [m_sh2, Nat.add_comm i 2])))) (by omega)
      · intro q T hq hT9 hI hmu
        refine J_aload_n hC dX11_regret_46 0 rfl rfl ?_
        refine J_aload_n hC dX11_regret_47 0 rfl rfl ?_
        refine J_bipush (v := 9) hC dX11_regret_48 (by decide +kernel) ?_
        refine J_iald (i := 9) (v := T 9) hC dX11_regret_50 0 rfl (by omega) (by decide) rfl ?_
        refine J_topi hT9 ?_
        refine J_callSi hC dX11_regret_51 wl_X11_112 wi_X11 yi_X11_ofRegret (c_X11_ofRegret _ G (gW G b T) q) rfl rfl ⟨Nat.le_of_ble_eq_true rfl, Nat.le_of_ble_eq_true rfl⟩ (Nat.le_of_ble_eq_true rfl) (Nat.le_of_ble_eq_true rfl) (Nat.le_of_ble_eq_true rfl) (fun r u h_51 => ?_)
        subst h_51
        refine J_iconst (v := 0) hC dX11_regret_54 rfl ?_
        refine J_iadd (v := nI (222 + 2 * q)) hC dX11_regret_55 (Int32.add_zero _) ?_
        refine J_aload_n hC dX11_regret_56 0 rfl rfl ?_
        refine J_iconst (v := 5) hC dX11_regret_57 rfl ?_
        refine J_iald (i := 5) (v := T 5) hC dX11_regret_58 0 rfl (by omega) (by decide) rfl ?_
        refine J_iast (i := 222 + 2 * q) (ws' := gW G b (upd T (222 + 2 * q) (T 5))) hC dX11_regret_59 0 rfl (by omega) (by decide) rfl ?_
        refine J_aload_n hC dX11_regret_60 0 rfl rfl ?_
        refine J_aload_n hC dX11_regret_61 0 rfl rfl ?_
        refine J_bipush (v := 9) hC dX11_regret_62 (by decide +kernel) ?_
        refine J_iald (i := 9) (v := T 9) hC dX11_regret_64 0 rfl (by omega) (by decide) (pk_un (by omega)) ?_
        refine J_topi hT9 ?_
        refine J_callSi hC dX11_regret_65 wl_X11_112 wi_X11 yi_X11_ofRegret (c_X11_ofRegret _ G (gW G b (upd T (222 + 2 * q) (T 5))) q) rfl rfl ⟨Nat.le_of_ble_eq_true rfl, Nat.le_of_ble_eq_true rfl⟩ (Nat.le_of_ble_eq_true rfl) (Nat.le_of_ble_eq_true rfl) (Nat.le_of_ble_eq_true rfl) (fun r u h_65 => ?_)
        subst h_65
        refine J_iconst (v := 1) hC dX11_regret_68 rfl ?_
        refine J_iadd (v := nI (223 + 2 * q)) hC dX11_regret_69 ((nI_add (222 + 2 * q) 1).trans (congrArg nI (by omega))) ?_
        refine J_iload_n hC dX11_regret_70 1 rfl rfl ?_
        refine J_iast (i := 223 + 2 * q) (ws' := gW G b (upd (upd T (222 + 2 * q) (T 5)) (223 + 2 * q) v)) hC dX11_regret_71 0 rfl (by omega) (by decide) rfl ?_
        refine J_aload_n hC dX11_regret_72 0 rfl rfl ?_
        refine J_bipush (v := 9) hC dX11_regret_73 (by decide +kernel) ?_
        refine J_dup2 hC dX11_regret_75 rfl rfl ?_
        refine J_iald (i := 9) (v := T 9) hC dX11_regret_76 0 rfl (by omega) (by decide) ((pk_un (by omega)).trans (pk_un (by omega))) ?_
        refine J_topi hT9 ?_
        refine J_iconst (v := 1) hC dX11_regret_77 rfl ?_
        refine J_iadd (v := nI (1 + q)) hC dX11_regret_78 ((nI_add q 1).trans (congrArg nI (by omega))) ?_
        refine J_iast (i := 9) (ws' := gW G b (upd (upd (upd T (222 + 2 * q) (T 5)) (223 + 2 * q) v) 9 (nI (1 + q)))) hC dX11_regret_79 0 rfl (by omega) (by decide) rfl ?_
        refine J_aload_n hC dX11_regret_80 0 rfl rfl ?_
        refine J_bipush (v := 11) hC dX11_regret_81 (by decide +kernel) ?_
        refine J_dup2 hC dX11_regret_83 rfl rfl ?_
        refine J_iald (i := 11) (v := T 11) hC dX11_regret_84 0 rfl (by omega) (by decide) ((pk_un (by omega)).trans ((pk_un (by omega)).trans (pk_un (by omega)))) ?_
        refine J_iconst (v := 1) hC dX11_regret_85 rfl ?_
        refine J_iadd (v := (T 11) + 1) hC dX11_regret_86 rfl ?_
        refine J_iast (i := 11) (ws' := gW G b (upd (upd (upd (upd T (222 + 2 * q) (T 5)) (223 + 2 * q) v) 9 (nI (1 + q))) 11 ((T 11) + 1))) hC dX11_regret_87 0 rfl (by omega) (by decide) rfl ?_
        refine J_vret hC hR dX11_regret_88 () ?_ ?_ (by decide) (by decide)
        · trivial
        · rw [m_regret, ← hI, ← hq, show 1 + q = q + 1 by omega]
  refine J_aload_n hC dX11_regret_0 0 rfl rfl ?_
  refine J_bipush (v := 9) hC dX11_regret_1 (by decide +kernel) ?_
  refine J_iald (i := 9) (v := g 9) hC dX11_regret_3 0 rfl (by omega) (by decide) rfl ?_
  refine J_topi hmc ?_
  refine J_bipush (v := 10) hC dX11_regret_4 (by decide +kernel) ?_
  refine J_ic_neN (a := mc) (b := 10) (tgt := 46) hC dX11_regret_6 (by decide) (by omega) (by omega) (fun (c_6 : ¬ mc = 10) => ?_) (fun (c_6 : mc = 10) => ?_)
  · exact ((key _).2) mc g (by omega) (hmc) (by rw [m_regret0, if_neg c_6]) (Nat.lt_succ_self _)
  · subst c_6
    refine J_aload_n hC dX11_regret_9 0 rfl rfl ?_
    refine J_bipush (v := 9) hC dX11_regret_10 (by decide +kernel) ?_
    refine J_dup2 hC dX11_regret_12 rfl rfl ?_
    refine J_iald (i := 9) (v := g 9) hC dX11_regret_13 0 rfl (by omega) (by decide) rfl ?_
    refine J_topi hmc ?_
    refine J_iconst (v := 1) hC dX11_regret_14 rfl ?_
    refine J_isub (v := nI 9) hC dX11_regret_15 (pk_sub (a := 10) (b := 1) (by omega)) ?_
    refine J_iast (i := 9) (ws' := gW G b (upd g 9 (nI 9))) hC dX11_regret_16 0 rfl (by omega) (by decide) rfl ?_
    refine J_sipush (v := 222) hC dX11_regret_17 (by decide +kernel) ?_
    refine J_istore_n hC [(2, .int 222), (0, .ref b), (1, .int v)] dX11_regret_20 rfl (by decide) rfl ?_
    refine J_lv (lv' := [(0, .ref b), (1, .int v), (2, .int 222)]) [1, 2, 0] rfl ?_
    exact ((key _).1) 222 (upd g 9 (nI 9)) (rfl) (by omega) (pk_us) (rfl) (Nat.lt_succ_self _)

set_option maxRecDepth 100000 in
set_option maxHeartbeats 4000000 in
theorem c_X11_endYear (l : Launch) (G : gT) (b : Nat) (g : RT) : MV l yX11_endYear cX11_endYear 4 { frames := 0, cells := 0, slots := 0, locals := 0 } [.ref (b)] G (gW G b g) (fun (_ : Unit) => True) (fun _ => gW G b (m_endYear g)) := by
  refine jm_v (own := RX11) (by decide) rfl (Nat.le_of_ble_eq_true rfl) (fun x hl hC hR hN => ?_)
  subst hl
  have key : ∀ fuel : Nat, (∀ (mo : Nat) (le : Nat), (mo = m_fg g) → (le = m_ll g) → 2 < fuel → J x G (gW G b g) 0 0 [(0, .ref b), (1, .int (nI mo)), (2, .int (nI le))] [] 51) ∧ (∀ (le : Nat) (T : RT), (le = m_ll g) → (T = m_oddsUp g) → 1 < fuel → J x G (gW G b T) 0 0 [(0, .ref b), (2, .int (nI le))] [] 70) ∧ (∀ (U : RT), (U = m_oddsDn (m_oddsUp g) (m_ll g)) → 0 < fuel → J x G (gW G b U) 0 0 [(0, .ref b)] [] 87) := by
    intro fuel
    induction fuel with
    | zero => exact ⟨fun _ _ _ _ h => absurd h (Nat.not_lt_zero _), fun _ _ _ _ h => absurd h (Nat.not_lt_zero _), fun _ _ h => absurd h (Nat.not_lt_zero _)⟩
    | succ fuel ih =>
      refine ⟨?_, ?_, ?_⟩
      · intro mo le hmo hle hmu
        have hm3 := m_fg_lt g
        have hl3 := m_ll_lt g
        refine J_aload_n hC dX11_endYear_51 0 rfl rfl ?_
        refine J_iconst (v := 1) hC dX11_endYear_52 rfl ?_
        refine J_iload_n hC dX11_endYear_53 1 rfl rfl ?_
        refine J_iadd (v := nI (1 + mo)) hC dX11_endYear_54 (nI_add 1 mo) ?_
        refine J_iald (i := 1 + mo) (v := g (1 + mo)) hC dX11_endYear_55 0 rfl (by omega) (by decide) rfl ?_
        refine J_bipush (v := 20) hC dX11_endYear_56 (by decide +kernel) ?_
        refine J_ic_ge (tgt := 70) hC dX11_endYear_58 (by decide) (fun (c_58 : 20 ≤ (g (1 + mo))) => ?_) (fun (c_58 : ¬ 20 ≤ (g (1 + mo))) => ?_)
        · refine J_lv (lv' := [(0, .ref b), (2, .int (nI le))]) [0, 2] rfl ?_
          exact ih.2.1 le g (hle) (by rw [m_oddsUp, ← hmo, if_pos c_58]) (by omega)
        · refine J_aload_n hC dX11_endYear_61 0 rfl rfl ?_
          refine J_iconst (v := 1) hC dX11_endYear_62 rfl ?_
          refine J_iload_n hC dX11_endYear_63 1 rfl rfl ?_
          refine J_iadd (v := nI (1 + mo)) hC dX11_endYear_64 (nI_add 1 mo) ?_
          refine J_dup2 hC dX11_endYear_65 rfl rfl ?_
          refine J_iald (i := 1 + mo) (v := g (1 + mo)) hC dX11_endYear_66 0 rfl (by omega) (by decide) rfl ?_
          refine J_iconst (v := 1) hC dX11_endYear_67 rfl ?_
          refine J_iadd (v := (g (1 + mo)) + 1) hC dX11_endYear_68 rfl ?_
          refine J_iast (i := 1 + mo) (ws' := gW G b (upd g (1 + mo) ((g (1 + mo)) + 1))) hC dX11_endYear_69 0 rfl (by omega) (by decide) rfl ?_
          refine J_lv (lv' := [(0, .ref b), (2, .int (nI le))]) [0, 2] rfl ?_
          exact ih.2.1 le (upd g (1 + mo) ((g (1 + mo)) + 1)) (hle) (by rw [m_oddsUp, ← hmo, if_neg c_58]) (by omega)
      · intro le T hle hT hmu
        have hl3 := m_ll_lt g
        refine J_aload_n hC dX11_endYear_70 0 rfl rfl ?_
        refine J_iconst (v := 1) hC dX11_endYear_71 rfl ?_
        refine J_iload_n hC dX11_endYear_72 1 rfl rfl ?_
        refine J_iadd (v := nI (1 + le)) hC dX11_endYear_73 (nI_add 1 le) ?_
        refine J_iald (i := 1 + le) (v := T (1 + le)) hC dX11_endYear_74 0 rfl (by omega) (by decide) rfl ?_
        refine J_if_le (tgt := 87) hC dX11_endYear_75 (by decide) (fun (c_75 : (T (1 + le)) ≤ 0) => ?_) (fun (c_75 : ¬ (T (1 + le)) ≤ 0) => ?_)
        · refine J_lv (lv' := [(0, .ref b)]) [0] rfl ?_
          exact ih.2.2 T (by rw [← hT, ← hle, m_oddsDn, if_pos c_75]) (by omega)
        · refine J_aload_n hC dX11_endYear_78 0 rfl rfl ?_
          refine J_iconst (v := 1) hC dX11_endYear_79 rfl ?_
          refine J_iload_n hC dX11_endYear_80 1 rfl rfl ?_
          refine J_iadd (v := nI (1 + le)) hC dX11_endYear_81 (nI_add 1 le) ?_
          refine J_dup2 hC dX11_endYear_82 rfl rfl ?_
          refine J_iald (i := 1 + le) (v := T (1 + le)) hC dX11_endYear_83 0 rfl (by omega) (by decide) rfl ?_
          refine J_iconst (v := 1) hC dX11_endYear_84 rfl ?_
          refine J_isub (v := (T (1 + le)) - 1) hC dX11_endYear_85 rfl ?_
          refine J_iast (i := 1 + le) (ws' := gW G b (upd T (1 + le) ((T (1 + le)) - 1))) hC dX11_endYear_86 0 rfl (by omega) (by decide) rfl ?_
          refine J_lv (lv' := [(0, .ref b)]) [0] rfl ?_
          exact ih.2.2 (upd T (1 + le) ((T (1 + le)) - 1)) (by rw [← hT, ← hle, m_oddsDn, if_neg c_75]) (by omega)
      · intro U hU hmu
        refine J_iconst (v := 0) hC dX11_endYear_87 rfl ?_
        refine J_istore_n hC [(3, .int 0), (0, .ref b)] dX11_endYear_88 rfl (by decide) rfl ?_
        refine J_iload_n hC dX11_endYear_89 0 rfl rfl ?_
        refine J_iconst (v := 3) hC dX11_endYear_90 rfl ?_
        refine J_ic_ge (tgt := 107) hC dX11_endYear_91 (by decide) (fun c => absurd c (by decide)) (fun _ => ?_)
        refine J_aload_n hC dX11_endYear_94 1 rfl rfl ?_
        refine J_bipush (v := 17) hC dX11_endYear_95 (by decide +kernel) ?_
        refine J_iload_n hC dX11_endYear_97 0 rfl rfl ?_
        refine J_iadd (v := 17) hC dX11_endYear_98 (Int32.add_zero _) ?_
        refine J_iconst (v := 0) hC dX11_endYear_99 rfl ?_
        refine J_iast (i := 17) (ws' := gW G b (upd U 17 0)) hC dX11_endYear_100 0 rfl (by omega) (by decide) rfl ?_
        refine J_iinc hC [(3, .int 1), (0, .ref b)] dX11_endYear_101 0 rfl (by decide +kernel) (by decide) rfl ?_
        refine J_goto (tgt := 89) hC dX11_endYear_104 (by decide) ?_
        refine J_iload_n hC dX11_endYear_89 0 rfl rfl ?_
        refine J_iconst (v := 3) hC dX11_endYear_90 rfl ?_
        refine J_ic_ge (tgt := 107) hC dX11_endYear_91 (by decide) (fun c => absurd c (by decide)) (fun _ => ?_)
        refine J_aload_n hC dX11_endYear_94 1 rfl rfl ?_
        refine J_bipush (v := 17) hC dX11_endYear_95 (by decide +kernel) ?_
        refine J_iload_n hC dX11_endYear_97 0 rfl rfl ?_
        refine J_iadd (v := nI 18) hC dX11_endYear_98 ((nI_add 17 1).trans (congrArg nI (by omega))) ?_
        refine J_iconst (v := 0) hC dX11_endYear_99 rfl ?_
        refine J_iast (i := 18) (ws' := gW G b (upd (upd U 17 0) 18 0)) hC dX11_endYear_100 0 rfl (by omega) (by decide) rfl ?_
        refine J_iinc hC [(3, .int 2), (0, .ref b)] dX11_endYear_101 0 rfl (by decide +kernel) (by decide) rfl ?_
        refine J_goto (tgt := 89) hC dX11_endYear_104 (by decide) ?_
        refine J_iload_n hC dX11_endYear_89 0 rfl rfl ?_
        refine J_iconst (v := 3) hC dX11_endYear_90 rfl ?_
        refine J_ic_ge (tgt := 107) hC dX11_endYear_91 (by decide) (fun c => absurd c (by decide)) (fun _ => ?_)
        refine J_aload_n hC dX11_endYear_94 1 rfl rfl ?_
        refine J_bipush (v := 17) hC dX11_endYear_95 (by decide +kernel) ?_
        refine J_iload_n hC dX11_endYear_97 0 rfl rfl ?_
        refine J_iadd (v := nI 19) hC dX11_endYear_98 ((nI_add 17 2).trans (congrArg nI (by omega))) ?_
        refine J_iconst (v := 0) hC dX11_endYear_99 rfl ?_
        refine J_iast (i := 19) (ws' := gW G b (upd (upd (upd U 17 0) 18 0) 19 0)) hC dX11_endYear_100 0 rfl (by omega) (by decide) rfl ?_
        refine J_iinc hC [(3, .int 3), (0, .ref b)] dX11_endYear_101 0 rfl (by decide +kernel) (by decide) rfl ?_
        refine J_goto (tgt := 89) hC dX11_endYear_104 (by decide) ?_
        refine J_iload_n hC dX11_endYear_89 0 rfl rfl ?_
        refine J_iconst (v := 3) hC dX11_endYear_90 rfl ?_
        refine J_ic_ge (tgt := 107) hC dX11_endYear_91 (by decide) (fun _ => ?_) (fun c => absurd (by decide) c)
        refine J_vret hC hR dX11_endYear_107 () ?_ ?_ (by decide) (by decide)
        · trivial
        · rw [m_endYear, ← hU]
  refine J_iconst (v := 0) hC dX11_endYear_0 rfl ?_
  refine J_istore_n hC [(1, .int 0), (0, .ref b)] dX11_endYear_1 rfl (by decide) rfl ?_
  refine J_iconst (v := 0) hC dX11_endYear_2 rfl ?_
  refine J_istore_n hC [(2, .int 0), (1, .int 0), (0, .ref b)] dX11_endYear_3 rfl (by decide) rfl ?_
  refine J_iconst (v := 1) hC dX11_endYear_4 rfl ?_
  refine J_istore_n hC [(3, .int 1), (2, .int 0), (1, .int 0), (0, .ref b)] dX11_endYear_5 rfl (by decide) rfl ?_
  refine J_iload_n hC dX11_endYear_6 0 rfl rfl ?_
  refine J_iconst (v := 3) hC dX11_endYear_7 rfl ?_
  refine J_ic_ge (tgt := 51) hC dX11_endYear_8 (by decide) (fun c => absurd c (by decide)) (fun _ => ?_)
  refine J_aload_n hC dX11_endYear_11 3 rfl rfl ?_
  refine J_bipush (v := 17) hC dX11_endYear_12 (by decide +kernel) ?_
  refine J_iload_n hC dX11_endYear_14 0 rfl rfl ?_
  refine J_iadd (v := nI 18) hC dX11_endYear_15 ((nI_add 17 1).trans (congrArg nI (by omega))) ?_
  refine J_iald (i := 18) (v := g 18) hC dX11_endYear_16 0 rfl (by omega) (by decide) rfl ?_
  refine J_aload_n hC dX11_endYear_17 3 rfl rfl ?_
  refine J_bipush (v := 17) hC dX11_endYear_18 (by decide +kernel) ?_
  refine J_iload_n hC dX11_endYear_20 2 rfl rfl ?_
  refine J_iadd (v := 17) hC dX11_endYear_21 (Int32.add_zero _) ?_
  refine J_iald (i := 17) (v := g 17) hC dX11_endYear_22 0 rfl (by omega) (by decide) rfl ?_
  refine J_ic_le (tgt := 28) hC dX11_endYear_23 (by decide) (fun (c_23 : (g 18) ≤ (g 17)) => ?_) (fun (c_23 : ¬ (g 18) ≤ (g 17)) => ?_)
  · refine J_aload_n hC dX11_endYear_28 3 rfl rfl ?_
    refine J_bipush (v := 17) hC dX11_endYear_29 (by decide +kernel) ?_
    refine J_iload_n hC dX11_endYear_31 0 rfl rfl ?_
    refine J_iadd (v := nI 18) hC dX11_endYear_32 ((nI_add 17 1).trans (congrArg nI (by omega))) ?_
    refine J_iald (i := 18) (v := g 18) hC dX11_endYear_33 0 rfl (by omega) (by decide) rfl ?_
    refine J_aload_n hC dX11_endYear_34 3 rfl rfl ?_
    refine J_bipush (v := 17) hC dX11_endYear_35 (by decide +kernel) ?_
    refine J_iload_n hC dX11_endYear_37 1 rfl rfl ?_
    refine J_iadd (v := 17) hC dX11_endYear_38 (Int32.add_zero _) ?_
    refine J_iald (i := 17) (v := g 17) hC dX11_endYear_39 0 rfl (by omega) (by decide) rfl ?_
    refine J_ic_gt (tgt := 45) hC dX11_endYear_40 (by decide) (fun (c_40 : (g 17) < (g 18)) => ?_) (fun (c_40 : ¬ (g 17) < (g 18)) => ?_)
    · refine J_iinc hC [(3, .int 2), (2, .int 0), (1, .int 0), (0, .ref b)] dX11_endYear_45 0 rfl (by decide +kernel) (by decide) rfl ?_
      refine J_goto (tgt := 6) hC dX11_endYear_48 (by decide) ?_
      refine J_iload_n hC dX11_endYear_6 0 rfl rfl ?_
      refine J_iconst (v := 3) hC dX11_endYear_7 rfl ?_
      refine J_ic_ge (tgt := 51) hC dX11_endYear_8 (by decide) (fun c => absurd c (by decide)) (fun _ => ?_)
      refine J_aload_n hC dX11_endYear_11 3 rfl rfl ?_
      refine J_bipush (v := 17) hC dX11_endYear_12 (by decide +kernel) ?_
      refine J_iload_n hC dX11_endYear_14 0 rfl rfl ?_
      refine J_iadd (v := nI 19) hC dX11_endYear_15 ((nI_add 17 2).trans (congrArg nI (by omega))) ?_
      refine J_iald (i := 19) (v := g 19) hC dX11_endYear_16 0 rfl (by omega) (by decide) rfl ?_
      refine J_aload_n hC dX11_endYear_17 3 rfl rfl ?_
      refine J_bipush (v := 17) hC dX11_endYear_18 (by decide +kernel) ?_
      refine J_iload_n hC dX11_endYear_20 2 rfl rfl ?_
      refine J_iadd (v := 17) hC dX11_endYear_21 (Int32.add_zero _) ?_
      refine J_iald (i := 17) (v := g 17) hC dX11_endYear_22 0 rfl (by omega) (by decide) rfl ?_
      refine J_ic_le (tgt := 28) hC dX11_endYear_23 (by decide) (fun (c_23_1 : (g 19) ≤ (g 17)) => ?_) (fun (c_23_1 : ¬ (g 19) ≤ (g 17)) => ?_)
      · refine J_aload_n hC dX11_endYear_28 3 rfl rfl ?_
        refine J_bipush (v := 17) hC dX11_endYear_29 (by decide +kernel) ?_
        refine J_iload_n hC dX11_endYear_31 0 rfl rfl ?_
        refine J_iadd (v := nI 19) hC dX11_endYear_32 ((nI_add 17 2).trans (congrArg nI (by omega))) ?_
        refine J_iald (i := 19) (v := g 19) hC dX11_endYear_33 0 rfl (by omega) (by decide) rfl ?_
        refine J_aload_n hC dX11_endYear_34 3 rfl rfl ?_
        refine J_bipush (v := 17) hC dX11_endYear_35 (by decide +kernel) ?_
        refine J_iload_n hC dX11_endYear_37 1 rfl rfl ?_
        refine J_iadd (v := 17) hC dX11_endYear_38 (Int32.add_zero _) ?_
        refine J_iald (i := 17) (v := g 17) hC dX11_endYear_39 0 rfl (by omega) (by decide) rfl ?_
        refine J_ic_gt (tgt := 45) hC dX11_endYear_40 (by decide) (fun (c_40_1 : (g 17) < (g 19)) => ?_) (fun (c_40_1 : ¬ (g 17) < (g 19)) => ?_)
        · refine J_iinc hC [(3, .int 3), (2, .int 0), (1, .int 0), (0, .ref b)] dX11_endYear_45 0 rfl (by decide +kernel) (by decide) rfl ?_
          refine J_goto (tgt := 6) hC dX11_endYear_48 (by decide) ?_
          refine J_iload_n hC dX11_endYear_6 0 rfl rfl ?_
          refine J_iconst (v := 3) hC dX11_endYear_7 rfl ?_
          refine J_ic_ge (tgt := 51) hC dX11_endYear_8 (by decide) (fun _ => ?_) (fun c => absurd (by decide) c)
          refine J_lv (lv' := [(0, .ref b), (1, .int 0), (2, .int 0)]) [3, 2, 1] rfl ?_
          exact ((key _).1) 0 0 (by simp [m_fg, fo, c_23, c_40, c_23_1, c_40_1]) (by simp [m_ll, fo, c_23, c_40, c_23_1, c_40_1]) (Nat.lt_succ_self _)
        · refine J_iload_n hC dX11_endYear_43 0 rfl rfl ?_
          refine J_istore_n hC [(2, .int 2), (3, .int 2), (1, .int 0), (0, .ref b)] dX11_endYear_44 rfl (by decide) rfl ?_
          refine J_iinc hC [(3, .int 3), (2, .int 2), (1, .int 0), (0, .ref b)] dX11_endYear_45 1 rfl (by decide +kernel) (by decide) rfl ?_
          refine J_goto (tgt := 6) hC dX11_endYear_48 (by decide) ?_
          refine J_iload_n hC dX11_endYear_6 0 rfl rfl ?_
          refine J_iconst (v := 3) hC dX11_endYear_7 rfl ?_
          refine J_ic_ge (tgt := 51) hC dX11_endYear_8 (by decide) (fun _ => ?_) (fun c => absurd (by decide) c)
          refine J_lv (lv' := [(0, .ref b), (1, .int 0), (2, .int 2)]) [3, 2, 1] rfl ?_
          exact ((key _).1) 0 2 (by simp [m_fg, fo, c_23, c_40, c_23_1, c_40_1]) (by simp [m_ll, fo, c_23, c_40, c_23_1, c_40_1]) (Nat.lt_succ_self _)
      · refine J_iload_n hC dX11_endYear_26 0 rfl rfl ?_
        refine J_istore_n hC [(1, .int 2), (3, .int 2), (2, .int 0), (0, .ref b)] dX11_endYear_27 rfl (by decide) rfl ?_
        refine J_aload_n hC dX11_endYear_28 3 rfl rfl ?_
        refine J_bipush (v := 17) hC dX11_endYear_29 (by decide +kernel) ?_
        refine J_iload_n hC dX11_endYear_31 1 rfl rfl ?_
        refine J_iadd (v := nI 19) hC dX11_endYear_32 ((nI_add 17 2).trans (congrArg nI (by omega))) ?_
        refine J_iald (i := 19) (v := g 19) hC dX11_endYear_33 0 rfl (by omega) (by decide) rfl ?_
        refine J_aload_n hC dX11_endYear_34 3 rfl rfl ?_
        refine J_bipush (v := 17) hC dX11_endYear_35 (by decide +kernel) ?_
        refine J_iload_n hC dX11_endYear_37 2 rfl rfl ?_
        refine J_iadd (v := 17) hC dX11_endYear_38 (Int32.add_zero _) ?_
        refine J_iald (i := 17) (v := g 17) hC dX11_endYear_39 0 rfl (by omega) (by decide) rfl ?_
        refine J_ic_gt (tgt := 45) hC dX11_endYear_40 (by decide) (fun (c_40_1 : (g 17) < (g 19)) => ?_) (fun (c_40_1 : ¬ (g 17) < (g 19)) => ?_)
        · refine J_iinc hC [(3, .int 3), (1, .int 2), (2, .int 0), (0, .ref b)] dX11_endYear_45 1 rfl (by decide +kernel) (by decide) rfl ?_
          refine J_goto (tgt := 6) hC dX11_endYear_48 (by decide) ?_
          refine J_iload_n hC dX11_endYear_6 0 rfl rfl ?_
          refine J_iconst (v := 3) hC dX11_endYear_7 rfl ?_
          refine J_ic_ge (tgt := 51) hC dX11_endYear_8 (by decide) (fun _ => ?_) (fun c => absurd (by decide) c)
          refine J_lv (lv' := [(0, .ref b), (1, .int 2), (2, .int 0)]) [3, 1, 2] rfl ?_
          exact ((key _).1) 2 0 (by simp [m_fg, fo, c_23, c_40, c_23_1, c_40_1]) (by simp [m_ll, fo, c_23, c_40, c_23_1, c_40_1]) (Nat.lt_succ_self _)
        · refine J_iload_n hC dX11_endYear_43 1 rfl rfl ?_
          refine J_istore_n hC [(2, .int 2), (1, .int 2), (3, .int 2), (0, .ref b)] dX11_endYear_44 rfl (by decide) rfl ?_
          refine J_iinc hC [(3, .int 3), (2, .int 2), (1, .int 2), (0, .ref b)] dX11_endYear_45 2 rfl (by decide +kernel) (by decide) rfl ?_
          refine J_goto (tgt := 6) hC dX11_endYear_48 (by decide) ?_
          refine J_iload_n hC dX11_endYear_6 0 rfl rfl ?_
          refine J_iconst (v := 3) hC dX11_endYear_7 rfl ?_
          refine J_ic_ge (tgt := 51) hC dX11_endYear_8 (by decide) (fun _ => ?_) (fun c => absurd (by decide) c)
          refine J_lv (lv' := [(0, .ref b), (1, .int 2), (2, .int 2)]) [3, 2, 1] rfl ?_
          exact ((key _).1) 2 2 (by simp [m_fg, fo, c_23, c_40, c_23_1, c_40_1]) (by simp [m_ll, fo, c_23, c_40, c_23_1, c_40_1]) (Nat.lt_succ_self _)
    · refine J_iload_n hC dX11_endYear_43 0 rfl rfl ?_
      refine J_istore_n hC [(2, .int 1), (3, .int 1), (1, .int 0), (0, .ref b)] dX11_endYear_44 rfl (by decide) rfl ?_
      refine J_iinc hC [(3, .int 2), (2, .int 1), (1, .int 0), (0, .ref b)] dX11_endYear_45 1 rfl (by decide +kernel) (by decide) rfl ?_
      refine J_goto (tgt := 6) hC dX11_endYear_48 (by decide) ?_
      refine J_iload_n hC dX11_endYear_6 0 rfl rfl ?_
      refine J_iconst (v := 3) hC dX11_endYear_7 rfl ?_
      refine J_ic_ge (tgt := 51) hC dX11_endYear_8 (by decide) (fun c => absurd c (by decide)) (fun _ => ?_)
      refine J_aload_n hC dX11_endYear_11 3 rfl rfl ?_
      refine J_bipush (v := 17) hC dX11_endYear_12 (by decide +kernel) ?_
      refine J_iload_n hC dX11_endYear_14 0 rfl rfl ?_
      refine J_iadd (v := nI 19) hC dX11_endYear_15 ((nI_add 17 2).trans (congrArg nI (by omega))) ?_
      refine J_iald (i := 19) (v := g 19) hC dX11_endYear_16 0 rfl (by omega) (by decide) rfl ?_
      refine J_aload_n hC dX11_endYear_17 3 rfl rfl ?_
      refine J_bipush (v := 17) hC dX11_endYear_18 (by decide +kernel) ?_
      refine J_iload_n hC dX11_endYear_20 2 rfl rfl ?_
      refine J_iadd (v := 17) hC dX11_endYear_21 (Int32.add_zero _) ?_
      refine J_iald (i := 17) (v := g 17) hC dX11_endYear_22 0 rfl (by omega) (by decide) rfl ?_
      refine J_ic_le (tgt := 28) hC dX11_endYear_23 (by decide) (fun (c_23_1 : (g 19) ≤ (g 17)) => ?_) (fun (c_23_1 : ¬ (g 19) ≤ (g 17)) => ?_)
      · refine J_aload_n hC dX11_endYear_28 3 rfl rfl ?_
        refine J_bipush (v := 17) hC dX11_endYear_29 (by decide +kernel) ?_
        refine J_iload_n hC dX11_endYear_31 0 rfl rfl ?_
        refine J_iadd (v := nI 19) hC dX11_endYear_32 ((nI_add 17 2).trans (congrArg nI (by omega))) ?_
        refine J_iald (i := 19) (v := g 19) hC dX11_endYear_33 0 rfl (by omega) (by decide) rfl ?_
        refine J_aload_n hC dX11_endYear_34 3 rfl rfl ?_
        refine J_bipush (v := 17) hC dX11_endYear_35 (by decide +kernel) ?_
        refine J_iload_n hC dX11_endYear_37 1 rfl rfl ?_
        refine J_iadd (v := nI 18) hC dX11_endYear_38 ((nI_add 17 1).trans (congrArg nI (by omega))) ?_
        refine J_iald (i := 18) (v := g 18) hC dX11_endYear_39 0 rfl (by omega) (by decide) rfl ?_
        refine J_ic_gt (tgt := 45) hC dX11_endYear_40 (by decide) (fun (c_40_1 : (g 18) < (g 19)) => ?_) (fun (c_40_1 : ¬ (g 18) < (g 19)) => ?_)
        · refine J_iinc hC [(3, .int 3), (2, .int 1), (1, .int 0), (0, .ref b)] dX11_endYear_45 0 rfl (by decide +kernel) (by decide) rfl ?_
          refine J_goto (tgt := 6) hC dX11_endYear_48 (by decide) ?_
          refine J_iload_n hC dX11_endYear_6 0 rfl rfl ?_
          refine J_iconst (v := 3) hC dX11_endYear_7 rfl ?_
          refine J_ic_ge (tgt := 51) hC dX11_endYear_8 (by decide) (fun _ => ?_) (fun c => absurd (by decide) c)
          refine J_lv (lv' := [(0, .ref b), (1, .int 0), (2, .int 1)]) [3, 2, 1] rfl ?_
          exact ((key _).1) 0 1 (by simp [m_fg, fo, c_23, c_40, c_23_1, c_40_1]) (by simp [m_ll, fo, c_23, c_40, c_23_1, c_40_1]) (Nat.lt_succ_self _)
        · refine J_iload_n hC dX11_endYear_43 0 rfl rfl ?_
          refine J_istore_n hC [(2, .int 2), (3, .int 2), (1, .int 0), (0, .ref b)] dX11_endYear_44 rfl (by decide) rfl ?_
          refine J_iinc hC [(3, .int 3), (2, .int 2), (1, .int 0), (0, .ref b)] dX11_endYear_45 1 rfl (by decide +kernel) (by decide) rfl ?_
          refine J_goto (tgt := 6) hC dX11_endYear_48 (by decide) ?_
          refine J_iload_n hC dX11_endYear_6 0 rfl rfl ?_
          refine J_iconst (v := 3) hC dX11_endYear_7 rfl ?_
          refine J_ic_ge (tgt := 51) hC dX11_endYear_8 (by decide) (fun _ => ?_) (fun c => absurd (by decide) c)
          refine J_lv (lv' := [(0, .ref b), (1, .int 0), (2, .int 2)]) [3, 2, 1] rfl ?_
          exact ((key _).1) 0 2 (by simp [m_fg, fo, c_23, c_40, c_23_1, c_40_1]) (by simp [m_ll, fo, c_23, c_40, c_23_1, c_40_1]) (Nat.lt_succ_self _)
      · refine J_iload_n hC dX11_endYear_26 0 rfl rfl ?_
        refine J_istore_n hC [(1, .int 2), (3, .int 2), (2, .int 1), (0, .ref b)] dX11_endYear_27 rfl (by decide) rfl ?_
        refine J_aload_n hC dX11_endYear_28 3 rfl rfl ?_
        refine J_bipush (v := 17) hC dX11_endYear_29 (by decide +kernel) ?_
        refine J_iload_n hC dX11_endYear_31 1 rfl rfl ?_
        refine J_iadd (v := nI 19) hC dX11_endYear_32 ((nI_add 17 2).trans (congrArg nI (by omega))) ?_
        refine J_iald (i := 19) (v := g 19) hC dX11_endYear_33 0 rfl (by omega) (by decide) rfl ?_
        refine J_aload_n hC dX11_endYear_34 3 rfl rfl ?_
        refine J_bipush (v := 17) hC dX11_endYear_35 (by decide +kernel) ?_
        refine J_iload_n hC dX11_endYear_37 2 rfl rfl ?_
        refine J_iadd (v := nI 18) hC dX11_endYear_38 ((nI_add 17 1).trans (congrArg nI (by omega))) ?_
        refine J_iald (i := 18) (v := g 18) hC dX11_endYear_39 0 rfl (by omega) (by decide) rfl ?_
        refine J_ic_gt (tgt := 45) hC dX11_endYear_40 (by decide) (fun (c_40_1 : (g 18) < (g 19)) => ?_) (fun (c_40_1 : ¬ (g 18) < (g 19)) => ?_)
        · refine J_iinc hC [(3, .int 3), (1, .int 2), (2, .int 1), (0, .ref b)] dX11_endYear_45 1 rfl (by decide +kernel) (by decide) rfl ?_
          refine J_goto (tgt := 6) hC dX11_endYear_48 (by decide) ?_
          refine J_iload_n hC dX11_endYear_6 0 rfl rfl ?_
          refine J_iconst (v := 3) hC dX11_endYear_7 rfl ?_
          refine J_ic_ge (tgt := 51) hC dX11_endYear_8 (by decide) (fun _ => ?_) (fun c => absurd (by decide) c)
          refine J_lv (lv' := [(0, .ref b), (1, .int 2), (2, .int 1)]) [3, 1, 2] rfl ?_
          exact ((key _).1) 2 1 (by simp [m_fg, fo, c_23, c_40, c_23_1, c_40_1]) (by simp [m_ll, fo, c_23, c_40, c_23_1, c_40_1]) (Nat.lt_succ_self _)
        · refine J_iload_n hC dX11_endYear_43 1 rfl rfl ?_
          refine J_istore_n hC [(2, .int 2), (1, .int 2), (3, .int 2), (0, .ref b)] dX11_endYear_44 rfl (by decide) rfl ?_
          refine J_iinc hC [(3, .int 3), (2, .int 2), (1, .int 2), (0, .ref b)] dX11_endYear_45 2 rfl (by decide +kernel) (by decide) rfl ?_
          refine J_goto (tgt := 6) hC dX11_endYear_48 (by decide) ?_
          refine J_iload_n hC dX11_endYear_6 0 rfl rfl ?_
          refine J_iconst (v := 3) hC dX11_endYear_7 rfl ?_
          refine J_ic_ge (tgt := 51) hC dX11_endYear_8 (by decide) (fun _ => ?_) (fun c => absurd (by decide) c)
          refine J_lv (lv' := [(0, .ref b), (1, .int 2), (2, .int 2)]) [3, 2, 1] rfl ?_
          exact ((key _).1) 2 2 (by simp [m_fg, fo, c_23, c_40, c_23_1, c_40_1]) (by simp [m_ll, fo, c_23, c_40, c_23_1, c_40_1]) (Nat.lt_succ_self _)
  · refine J_iload_n hC dX11_endYear_26 0 rfl rfl ?_
    refine J_istore_n hC [(1, .int 1), (3, .int 1), (2, .int 0), (0, .ref b)] dX11_endYear_27 rfl (by decide) rfl ?_
    refine J_aload_n hC dX11_endYear_28 3 rfl rfl ?_
    refine J_bipush (v := 17) hC dX11_endYear_29 (by decide +kernel) ?_
    refine J_iload_n hC dX11_endYear_31 1 rfl rfl ?_
    refine J_iadd (v := nI 18) hC dX11_endYear_32 ((nI_add 17 1).trans (congrArg nI (by omega))) ?_
    refine J_iald (i := 18) (v := g 18) hC dX11_endYear_33 0 rfl (by omega) (by decide) rfl ?_
    refine J_aload_n hC dX11_endYear_34 3 rfl rfl ?_
    refine J_bipush (v := 17) hC dX11_endYear_35 (by decide +kernel) ?_
    refine J_iload_n hC dX11_endYear_37 2 rfl rfl ?_
    refine J_iadd (v := 17) hC dX11_endYear_38 (Int32.add_zero _) ?_
    refine J_iald (i := 17) (v := g 17) hC dX11_endYear_39 0 rfl (by omega) (by decide) rfl ?_
    refine J_ic_gt (tgt := 45) hC dX11_endYear_40 (by decide) (fun (c_40 : (g 17) < (g 18)) => ?_) (fun (c_40 : ¬ (g 17) < (g 18)) => ?_)
    · refine J_iinc hC [(3, .int 2), (1, .int 1), (2, .int 0), (0, .ref b)] dX11_endYear_45 1 rfl (by decide +kernel) (by decide) rfl ?_
      refine J_goto (tgt := 6) hC dX11_endYear_48 (by decide) ?_
      refine J_iload_n hC dX11_endYear_6 0 rfl rfl ?_
      refine J_iconst (v := 3) hC dX11_endYear_7 rfl ?_
      refine J_ic_ge (tgt := 51) hC dX11_endYear_8 (by decide) (fun c => absurd c (by decide)) (fun _ => ?_)
      refine J_aload_n hC dX11_endYear_11 3 rfl rfl ?_
      refine J_bipush (v := 17) hC dX11_endYear_12 (by decide +kernel) ?_
      refine J_iload_n hC dX11_endYear_14 0 rfl rfl ?_
      refine J_iadd (v := nI 19) hC dX11_endYear_15 ((nI_add 17 2).trans (congrArg nI (by omega))) ?_
      refine J_iald (i := 19) (v := g 19) hC dX11_endYear_16 0 rfl (by omega) (by decide) rfl ?_
      refine J_aload_n hC dX11_endYear_17 3 rfl rfl ?_
      refine J_bipush (v := 17) hC dX11_endYear_18 (by decide +kernel) ?_
      refine J_iload_n hC dX11_endYear_20 1 rfl rfl ?_
      refine J_iadd (v := nI 18) hC dX11_endYear_21 ((nI_add 17 1).trans (congrArg nI (by omega))) ?_
      refine J_iald (i := 18) (v := g 18) hC dX11_endYear_22 0 rfl (by omega) (by decide) rfl ?_
      refine J_ic_le (tgt := 28) hC dX11_endYear_23 (by decide) (fun (c_23_1 : (g 19) ≤ (g 18)) => ?_) (fun (c_23_1 : ¬ (g 19) ≤ (g 18)) => ?_)
      · refine J_aload_n hC dX11_endYear_28 3 rfl rfl ?_
        refine J_bipush (v := 17) hC dX11_endYear_29 (by decide +kernel) ?_
        refine J_iload_n hC dX11_endYear_31 0 rfl rfl ?_
        refine J_iadd (v := nI 19) hC dX11_endYear_32 ((nI_add 17 2).trans (congrArg nI (by omega))) ?_
        refine J_iald (i := 19) (v := g 19) hC dX11_endYear_33 0 rfl (by omega) (by decide) rfl ?_
        refine J_aload_n hC dX11_endYear_34 3 rfl rfl ?_
        refine J_bipush (v := 17) hC dX11_endYear_35 (by decide +kernel) ?_
        refine J_iload_n hC dX11_endYear_37 2 rfl rfl ?_
        refine J_iadd (v := 17) hC dX11_endYear_38 (Int32.add_zero _) ?_
        refine J_iald (i := 17) (v := g 17) hC dX11_endYear_39 0 rfl (by omega) (by decide) rfl ?_
        refine J_ic_gt (tgt := 45) hC dX11_endYear_40 (by decide) (fun (c_40_1 : (g 17) < (g 19)) => ?_) (fun (c_40_1 : ¬ (g 17) < (g 19)) => ?_)
        · refine J_iinc hC [(3, .int 3), (1, .int 1), (2, .int 0), (0, .ref b)] dX11_endYear_45 0 rfl (by decide +kernel) (by decide) rfl ?_
          refine J_goto (tgt := 6) hC dX11_endYear_48 (by decide) ?_
          refine J_iload_n hC dX11_endYear_6 0 rfl rfl ?_
          refine J_iconst (v := 3) hC dX11_endYear_7 rfl ?_
          refine J_ic_ge (tgt := 51) hC dX11_endYear_8 (by decide) (fun _ => ?_) (fun c => absurd (by decide) c)
          refine J_lv (lv' := [(0, .ref b), (1, .int 1), (2, .int 0)]) [3, 1, 2] rfl ?_
          exact ((key _).1) 1 0 (by simp [m_fg, fo, c_23, c_40, c_23_1, c_40_1]) (by simp [m_ll, fo, c_23, c_40, c_23_1, c_40_1]) (Nat.lt_succ_self _)
        · refine J_iload_n hC dX11_endYear_43 0 rfl rfl ?_
          refine J_istore_n hC [(2, .int 2), (3, .int 2), (1, .int 1), (0, .ref b)] dX11_endYear_44 rfl (by decide) rfl ?_
          refine J_iinc hC [(3, .int 3), (2, .int 2), (1, .int 1), (0, .ref b)] dX11_endYear_45 1 rfl (by decide +kernel) (by decide) rfl ?_
          refine J_goto (tgt := 6) hC dX11_endYear_48 (by decide) ?_
          refine J_iload_n hC dX11_endYear_6 0 rfl rfl ?_
          refine J_iconst (v := 3) hC dX11_endYear_7 rfl ?_
          refine J_ic_ge (tgt := 51) hC dX11_endYear_8 (by decide) (fun _ => ?_) (fun c => absurd (by decide) c)
          refine J_lv (lv' := [(0, .ref b), (1, .int 1), (2, .int 2)]) [3, 2, 1] rfl ?_
          exact ((key _).1) 1 2 (by simp [m_fg, fo, c_23, c_40, c_23_1, c_40_1]) (by simp [m_ll, fo, c_23, c_40, c_23_1, c_40_1]) (Nat.lt_succ_self _)
      · refine J_iload_n hC dX11_endYear_26 0 rfl rfl ?_
        refine J_istore_n hC [(1, .int 2), (3, .int 2), (2, .int 0), (0, .ref b)] dX11_endYear_27 rfl (by decide) rfl ?_
        refine J_aload_n hC dX11_endYear_28 3 rfl rfl ?_
        refine J_bipush (v := 17) hC dX11_endYear_29 (by decide +kernel) ?_
        refine J_iload_n hC dX11_endYear_31 1 rfl rfl ?_
        refine J_iadd (v := nI 19) hC dX11_endYear_32 ((nI_add 17 2).trans (congrArg nI (by omega))) ?_
        refine J_iald (i := 19) (v := g 19) hC dX11_endYear_33 0 rfl (by omega) (by decide) rfl ?_
        refine J_aload_n hC dX11_endYear_34 3 rfl rfl ?_
        refine J_bipush (v := 17) hC dX11_endYear_35 (by decide +kernel) ?_
        refine J_iload_n hC dX11_endYear_37 2 rfl rfl ?_
        refine J_iadd (v := 17) hC dX11_endYear_38 (Int32.add_zero _) ?_
        refine J_iald (i := 17) (v := g 17) hC dX11_endYear_39 0 rfl (by omega) (by decide) rfl ?_
        refine J_ic_gt (tgt := 45) hC dX11_endYear_40 (by decide) (fun (c_40_1 : (g 17) < (g 19)) => ?_) (fun (c_40_1 : ¬ (g 17) < (g 19)) => ?_)
        · refine J_iinc hC [(3, .int 3), (1, .int 2), (2, .int 0), (0, .ref b)] dX11_endYear_45 1 rfl (by decide +kernel) (by decide) rfl ?_
          refine J_goto (tgt := 6) hC dX11_endYear_48 (by decide) ?_
          refine J_iload_n hC dX11_endYear_6 0 rfl rfl ?_
          refine J_iconst (v := 3) hC dX11_endYear_7 rfl ?_
          refine J_ic_ge (tgt := 51) hC dX11_endYear_8 (by decide) (fun _ => ?_) (fun c => absurd (by decide) c)
          refine J_lv (lv' := [(0, .ref b), (1, .int 2), (2, .int 0)]) [3, 1, 2] rfl ?_
          exact ((key _).1) 2 0 (by simp [m_fg, fo, c_23, c_40, c_23_1, c_40_1]) (by simp [m_ll, fo, c_23, c_40, c_23_1, c_40_1]) (Nat.lt_succ_self _)
        · refine J_iload_n hC dX11_endYear_43 1 rfl rfl ?_
          refine J_istore_n hC [(2, .int 2), (1, .int 2), (3, .int 2), (0, .ref b)] dX11_endYear_44 rfl (by decide) rfl ?_
          refine J_iinc hC [(3, .int 3), (2, .int 2), (1, .int 2), (0, .ref b)] dX11_endYear_45 2 rfl (by decide +kernel) (by decide) rfl ?_
          refine J_goto (tgt := 6) hC dX11_endYear_48 (by decide) ?_
          refine J_iload_n hC dX11_endYear_6 0 rfl rfl ?_
          refine J_iconst (v := 3) hC dX11_endYear_7 rfl ?_
          refine J_ic_ge (tgt := 51) hC dX11_endYear_8 (by decide) (fun _ => ?_) (fun c => absurd (by decide) c)
          refine J_lv (lv' := [(0, .ref b), (1, .int 2), (2, .int 2)]) [3, 2, 1] rfl ?_
          exact ((key _).1) 2 2 (by simp [m_fg, fo, c_23, c_40, c_23_1, c_40_1]) (by simp [m_ll, fo, c_23, c_40, c_23_1, c_40_1]) (Nat.lt_succ_self _)
    · refine J_iload_n hC dX11_endYear_43 1 rfl rfl ?_
      refine J_istore_n hC [(2, .int 1), (1, .int 1), (3, .int 1), (0, .ref b)] dX11_endYear_44 rfl (by decide) rfl ?_
      refine J_iinc hC [(3, .int 2), (2, .int 1), (1, .int 1), (0, .ref b)] dX11_endYear_45 2 rfl (by decide +kernel) (by decide) rfl ?_
      refine J_goto (tgt := 6) hC dX11_endYear_48 (by decide) ?_
      refine J_iload_n hC dX11_endYear_6 0 rfl rfl ?_
      refine J_iconst (v := 3) hC dX11_endYear_7 rfl ?_
      refine J_ic_ge (tgt := 51) hC dX11_endYear_8 (by decide) (fun c => absurd c (by decide)) (fun _ => ?_)
      refine J_aload_n hC dX11_endYear_11 3 rfl rfl ?_
      refine J_bipush (v := 17) hC dX11_endYear_12 (by decide +kernel) ?_
      refine J_iload_n hC dX11_endYear_14 0 rfl rfl ?_
      refine J_iadd (v := nI 19) hC dX11_endYear_15 ((nI_add 17 2).trans (congrArg nI (by omega))) ?_
      refine J_iald (i := 19) (v := g 19) hC dX11_endYear_16 0 rfl (by omega) (by decide) rfl ?_
      refine J_aload_n hC dX11_endYear_17 3 rfl rfl ?_
      refine J_bipush (v := 17) hC dX11_endYear_18 (by decide +kernel) ?_
      refine J_iload_n hC dX11_endYear_20 2 rfl rfl ?_
      refine J_iadd (v := nI 18) hC dX11_endYear_21 ((nI_add 17 1).trans (congrArg nI (by omega))) ?_
      refine J_iald (i := 18) (v := g 18) hC dX11_endYear_22 0 rfl (by omega) (by decide) rfl ?_
      refine J_ic_le (tgt := 28) hC dX11_endYear_23 (by decide) (fun (c_23_1 : (g 19) ≤ (g 18)) => ?_) (fun (c_23_1 : ¬ (g 19) ≤ (g 18)) => ?_)
      · refine J_aload_n hC dX11_endYear_28 3 rfl rfl ?_
        refine J_bipush (v := 17) hC dX11_endYear_29 (by decide +kernel) ?_
        refine J_iload_n hC dX11_endYear_31 0 rfl rfl ?_
        refine J_iadd (v := nI 19) hC dX11_endYear_32 ((nI_add 17 2).trans (congrArg nI (by omega))) ?_
        refine J_iald (i := 19) (v := g 19) hC dX11_endYear_33 0 rfl (by omega) (by decide) rfl ?_
        refine J_aload_n hC dX11_endYear_34 3 rfl rfl ?_
        refine J_bipush (v := 17) hC dX11_endYear_35 (by decide +kernel) ?_
        refine J_iload_n hC dX11_endYear_37 1 rfl rfl ?_
        refine J_iadd (v := nI 18) hC dX11_endYear_38 ((nI_add 17 1).trans (congrArg nI (by omega))) ?_
        refine J_iald (i := 18) (v := g 18) hC dX11_endYear_39 0 rfl (by omega) (by decide) rfl ?_
        refine J_ic_gt (tgt := 45) hC dX11_endYear_40 (by decide) (fun (c_40_1 : (g 18) < (g 19)) => ?_) (fun (c_40_1 : ¬ (g 18) < (g 19)) => ?_)
        · refine J_iinc hC [(3, .int 3), (2, .int 1), (1, .int 1), (0, .ref b)] dX11_endYear_45 0 rfl (by decide +kernel) (by decide) rfl ?_
          refine J_goto (tgt := 6) hC dX11_endYear_48 (by decide) ?_
          refine J_iload_n hC dX11_endYear_6 0 rfl rfl ?_
          refine J_iconst (v := 3) hC dX11_endYear_7 rfl ?_
          refine J_ic_ge (tgt := 51) hC dX11_endYear_8 (by decide) (fun _ => ?_) (fun c => absurd (by decide) c)
          refine J_lv (lv' := [(0, .ref b), (1, .int 1), (2, .int 1)]) [3, 2, 1] rfl ?_
          exact ((key _).1) 1 1 (by simp [m_fg, fo, c_23, c_40, c_23_1, c_40_1]) (by simp [m_ll, fo, c_23, c_40, c_23_1, c_40_1]) (Nat.lt_succ_self _)
        · refine J_iload_n hC dX11_endYear_43 0 rfl rfl ?_
          refine J_istore_n hC [(2, .int 2), (3, .int 2), (1, .int 1), (0, .ref b)] dX11_endYear_44 rfl (by decide) rfl ?_
          refine J_iinc hC [(3, .int 3), (2, .int 2), (1, .int 1), (0, .ref b)] dX11_endYear_45 1 rfl (by decide +kernel) (by decide) rfl ?_
          refine J_goto (tgt := 6) hC dX11_endYear_48 (by decide) ?_
          refine J_iload_n hC dX11_endYear_6 0 rfl rfl ?_
          refine J_iconst (v := 3) hC dX11_endYear_7 rfl ?_
          refine J_ic_ge (tgt := 51) hC dX11_endYear_8 (by decide) (fun _ => ?_) (fun c => absurd (by decide) c)
          refine J_lv (lv' := [(0, .ref b), (1, .int 1), (2, .int 2)]) [3, 2, 1] rfl ?_
          exact ((key _).1) 1 2 (by simp [m_fg, fo, c_23, c_40, c_23_1, c_40_1]) (by simp [m_ll, fo, c_23, c_40, c_23_1, c_40_1]) (Nat.lt_succ_self _)
      · refine J_iload_n hC dX11_endYear_26 0 rfl rfl ?_
        refine J_istore_n hC [(1, .int 2), (3, .int 2), (2, .int 1), (0, .ref b)] dX11_endYear_27 rfl (by decide) rfl ?_
        refine J_aload_n hC dX11_endYear_28 3 rfl rfl ?_
        refine J_bipush (v := 17) hC dX11_endYear_29 (by decide +kernel) ?_
        refine J_iload_n hC dX11_endYear_31 1 rfl rfl ?_
        refine J_iadd (v := nI 19) hC dX11_endYear_32 ((nI_add 17 2).trans (congrArg nI (by omega))) ?_
        refine J_iald (i := 19) (v := g 19) hC dX11_endYear_33 0 rfl (by omega) (by decide) rfl ?_
        refine J_aload_n hC dX11_endYear_34 3 rfl rfl ?_
        refine J_bipush (v := 17) hC dX11_endYear_35 (by decide +kernel) ?_
        refine J_iload_n hC dX11_endYear_37 2 rfl rfl ?_
        refine J_iadd (v := nI 18) hC dX11_endYear_38 ((nI_add 17 1).trans (congrArg nI (by omega))) ?_
        refine J_iald (i := 18) (v := g 18) hC dX11_endYear_39 0 rfl (by omega) (by decide) rfl ?_
        refine J_ic_gt (tgt := 45) hC dX11_endYear_40 (by decide) (fun (c_40_1 : (g 18) < (g 19)) => ?_) (fun (c_40_1 : ¬ (g 18) < (g 19)) => ?_)
        · refine J_iinc hC [(3, .int 3), (1, .int 2), (2, .int 1), (0, .ref b)] dX11_endYear_45 1 rfl (by decide +kernel) (by decide) rfl ?_
          refine J_goto (tgt := 6) hC dX11_endYear_48 (by decide) ?_
          refine J_iload_n hC dX11_endYear_6 0 rfl rfl ?_
          refine J_iconst (v := 3) hC dX11_endYear_7 rfl ?_
          refine J_ic_ge (tgt := 51) hC dX11_endYear_8 (by decide) (fun _ => ?_) (fun c => absurd (by decide) c)
          refine J_lv (lv' := [(0, .ref b), (1, .int 2), (2, .int 1)]) [3, 1, 2] rfl ?_
          exact ((key _).1) 2 1 (by simp [m_fg, fo, c_23, c_40, c_23_1, c_40_1]) (by simp [m_ll, fo, c_23, c_40, c_23_1, c_40_1]) (Nat.lt_succ_self _)
        · refine J_iload_n hC dX11_endYear_43 1 rfl rfl ?_
          refine J_istore_n hC [(2, .int 2), (1, .int 2), (3, .int 2), (0, .ref b)] dX11_endYear_44 rfl (by decide) rfl ?_
          refine J_iinc hC [(3, .int 3), (2, .int 2), (1, .int 2), (0, .ref b)] dX11_endYear_45 2 rfl (by decide +kernel) (by decide) rfl ?_
          refine J_goto (tgt := 6) hC dX11_endYear_48 (by decide) ?_
          refine J_iload_n hC dX11_endYear_6 0 rfl rfl ?_
          refine J_iconst (v := 3) hC dX11_endYear_7 rfl ?_
          refine J_ic_ge (tgt := 51) hC dX11_endYear_8 (by decide) (fun _ => ?_) (fun c => absurd (by decide) c)
          refine J_lv (lv' := [(0, .ref b), (1, .int 2), (2, .int 2)]) [3, 2, 1] rfl ?_
          exact ((key _).1) 2 2 (by simp [m_fg, fo, c_23, c_40, c_23_1, c_40_1]) (by simp [m_ll, fo, c_23, c_40, c_23_1, c_40_1]) (Nat.lt_succ_self _)

set_option maxRecDepth 100000 in
set_option maxHeartbeats 4000000 in
theorem c_X11_weigh (l : Launch) (G : gT) (b : Nat) (g : RT) (bc : Nat) (mc : Nat) (vg : Nat) (w : Nat) (hbc : g 8 = nI bc) (bbc : bc ≤ 30) (hmc : g 9 = nI mc) (bmc : mc ≤ 10) (hv : vg < 6) (hw : w < 3) : MV l yX11_weigh cX11_weigh 5 { frames := 2, cells := 0, slots := 0, locals := 44 } [.ref (b), .int (nI vg), .int (nI w)] G (gW G b g) (fun (_ : Unit) => True) (fun _ => gW G b (m_weigh g vg w bc mc)) := by
  refine jm_v (own := RX11) (by decide) rfl (Nat.le_of_ble_eq_true rfl) (fun x hl hC hR hN => ?_)
  subst hl
  have key : ∀ fuel : Nat, (∀ (k : Nat) (T : RT), (k < bc) → (m_find g (nI vg) (g 5) bc = nI k) → (T 8 = nI bc) → (T = m_weighMid g vg w k mc) → 1 < fuel → J x G (gW G b T) 0 0 [(0, .ref b), (3, .int (nI k))] [] 97) := by
    intro fuel
    induction fuel with
    | zero => exact fun _ _ _ _ _ _ h => absurd h (Nat.not_lt_zero _)
    | succ fuel ih =>
      intro k T hk hp hTb hI hmu
      refine J_aload_n hC dX11_weigh_97 0 rfl rfl ?_
      refine J_iload_n hC dX11_weigh_98 1 rfl rfl ?_
      refine J_callSv hC dX11_weigh_99 wl_X11_95 wi_X11 yi_X11_dropForecast (c_X11_dropForecast _ G b T bc k (hTb) (by omega) (by omega)) rfl rfl ⟨Nat.le_of_ble_eq_true rfl, Nat.le_of_ble_eq_true rfl⟩ (Nat.le_of_ble_eq_true rfl) (Nat.le_of_ble_eq_true rfl) (Nat.le_of_ble_eq_true rfl) (fun _ _ => ?_)
      refine J_vret hC hR dX11_weigh_102 () ?_ ?_ (by decide) (by decide)
      · trivial
      · rw [m_weigh, if_neg (by rw [hp]; exact nI_ne_m1 (by omega)), hp, nI_clamp (by omega), ← hI]
  refine J_aload_n hC dX11_weigh_0 0 rfl rfl ?_
  refine J_iload_n hC dX11_weigh_1 1 rfl rfl ?_
  refine J_aload_n hC dX11_weigh_2 0 rfl rfl ?_
  refine J_iconst (v := 5) hC dX11_weigh_3 rfl ?_
  refine J_iald (i := 5) (v := g 5) hC dX11_weigh_4 0 rfl (by omega) (by decide) rfl ?_
  refine J_callSi hC dX11_weigh_5 wl_X11_73 wi_X11 yi_X11_find (c_X11_find _ G b g bc (nI vg) (g 5) (hbc) (by omega)) rfl rfl ⟨Nat.le_of_ble_eq_true rfl, Nat.le_of_ble_eq_true rfl⟩ (Nat.le_of_ble_eq_true rfl) (Nat.le_of_ble_eq_true rfl) (Nat.le_of_ble_eq_true rfl) (fun r u h_5 => ?_)
  subst h_5
  rcases m_find_cases g (nI vg) (g 5) bc with p_5 | ⟨k_5, hk_5, p_5, -, -⟩
  · refine J_topi p_5 ?_
    refine J_istore_n hC [(3, .int (-1)), (0, .ref b), (1, .int (nI vg)), (2, .int (nI w))] dX11_weigh_8 rfl (by decide) rfl ?_
    refine J_iload_n hC dX11_weigh_9 0 rfl rfl ?_
    refine J_iconst (v := (-1)) hC dX11_weigh_10 rfl ?_
    refine J_ic_ne (tgt := 15) hC dX11_weigh_11 (by decide) (fun c => absurd (by decide) c) (fun _ => ?_)
    refine J_vret hC hR dX11_weigh_14 () ?_ ?_ (by decide) (by decide)
    · trivial
    · rw [m_weigh, if_pos p_5]
  · refine J_topi p_5 ?_
    refine J_istore_n hC [(3, .int (nI k_5)), (0, .ref b), (1, .int (nI vg)), (2, .int (nI w))] dX11_weigh_8 rfl (by decide) rfl ?_
    refine J_iload_n hC dX11_weigh_9 0 rfl rfl ?_
    refine J_iconst (v := (-1)) hC dX11_weigh_10 rfl ?_
    refine J_ic_ne (tgt := 15) hC dX11_weigh_11 (by decide) (fun _ => ?_) (fun c => absurd c (nI_ne_m1 (by omega)))
    refine J_aload_n hC dX11_weigh_15 1 rfl rfl ?_
    refine J_iload_n hC dX11_weigh_16 0 rfl rfl ?_
    refine J_callSi hC dX11_weigh_17 wl_X11_69 wi_X11 yi_X11_ofForecast (c_X11_ofForecast _ G (gW G b g) k_5) rfl rfl ⟨Nat.le_of_ble_eq_true rfl, Nat.le_of_ble_eq_true rfl⟩ (Nat.le_of_ble_eq_true rfl) (Nat.le_of_ble_eq_true rfl) (Nat.le_of_ble_eq_true rfl) (fun r u h_17 => ?_)
    subst h_17
    refine J_iconst (v := 4) hC dX11_weigh_20 rfl ?_
    refine J_iadd (v := nI (76 + 5 * k_5)) hC dX11_weigh_21 ((nI_add (72 + 5 * k_5) 4).trans (congrArg nI (by omega))) ?_
    refine J_iald (i := 76 + 5 * k_5) (v := g (76 + 5 * k_5)) hC dX11_weigh_22 0 rfl (by omega) (by decide) rfl ?_
    refine J_istore hC [(4, .int (g (76 + 5 * k_5))), (3, .int (nI k_5)), (0, .ref b), (1, .int (nI vg)), (2, .int (nI w))] dX11_weigh_23 (by decide) rfl ?_
    refine J_aload_n hC dX11_weigh_25 2 rfl rfl ?_
    refine J_iload_n hC dX11_weigh_26 1 rfl rfl ?_
    refine J_callSi hC dX11_weigh_27 wl_X11_69 wi_X11 yi_X11_ofForecast (c_X11_ofForecast _ G (gW G b g) k_5) rfl rfl ⟨Nat.le_of_ble_eq_true rfl, Nat.le_of_ble_eq_true rfl⟩ (Nat.le_of_ble_eq_true rfl) (Nat.le_of_ble_eq_true rfl) (Nat.le_of_ble_eq_true rfl) (fun r u h_27 => ?_)
    subst h_27
    refine J_iconst (v := 2) hC dX11_weigh_30 rfl ?_
    refine J_iadd (v := nI (74 + 5 * k_5)) hC dX11_weigh_31 ((nI_add (72 + 5 * k_5) 2).trans (congrArg nI (by omega))) ?_
    refine J_iald (i := 74 + 5 * k_5) (v := g (74 + 5 * k_5)) hC dX11_weigh_32 0 rfl (by omega) (by decide) rfl ?_
    refine J_iload_n hC dX11_weigh_33 4 rfl rfl ?_
    refine J_ic_ne (tgt := 54) hC dX11_weigh_34 (by decide) (fun (c_34 : ¬ (g (74 + 5 * k_5)) = (nI w)) => ?_) (fun (c_34 : (g (74 + 5 * k_5)) = (nI w)) => ?_)
    · refine J_aload_n hC dX11_weigh_54 2 rfl rfl ?_
      refine J_iload_n hC dX11_weigh_55 3 rfl rfl ?_
      refine J_callSv hC dX11_weigh_56 wl_X11_115 wi_X11 yi_X11_regret (c_X11_regret _ G b g mc (nI vg) (hmc) (by omega)) rfl rfl ⟨Nat.le_of_ble_eq_true rfl, Nat.le_of_ble_eq_true rfl⟩ (Nat.le_of_ble_eq_true rfl) (Nat.le_of_ble_eq_true rfl) (Nat.le_of_ble_eq_true rfl) (fun _ _ => ?_)
      refine J_aload_n hC dX11_weigh_59 2 rfl rfl ?_
      refine J_iload_n hC dX11_weigh_60 4 rfl rfl ?_
      refine J_iconst (v := 2) hC dX11_weigh_61 rfl ?_
      refine J_ic_neN (a := w) (b := 2) (tgt := 73) hC dX11_weigh_62 (by decide) (by omega) (by omega) (fun (c_62 : ¬ w = 2) => ?_) (fun (c_62 : w = 2) => ?_)
      · refine J_iload hC dX11_weigh_73 0 rfl ?_
        refine J_iconst (v := 2) hC dX11_weigh_75 rfl ?_
        refine J_idiv (v := (g (76 + 5 * k_5)) / 2) hC dX11_weigh_76 (by decide) rfl ?_
        refine J_callSv hC dX11_weigh_77 wl_X11_87 wi_X11 yi_X11_payBack (c_X11_payBack _ G b (m_regret g (nI vg) mc) ((g (76 + 5 * k_5)) / 2)) rfl rfl ⟨Nat.le_of_ble_eq_true rfl, Nat.le_of_ble_eq_true rfl⟩ (Nat.le_of_ble_eq_true rfl) (Nat.le_of_ble_eq_true rfl) (Nat.le_of_ble_eq_true rfl) (fun _ _ => ?_)
        refine J_aload_n hC dX11_weigh_80 2 rfl rfl ?_
        refine J_iload_n hC dX11_weigh_81 3 rfl rfl ?_
        refine J_iload_n hC dX11_weigh_82 4 rfl rfl ?_
        refine J_iconst (v := 2) hC dX11_weigh_83 rfl ?_
        refine J_ic_neN (a := w) (b := 2) (tgt := 92) hC dX11_weigh_84 (by decide) (by omega) (by omega) (fun (c_84 : ¬ w = 2) => ?_) (fun (c_84 : w = 2) => ?_)
        · refine J_bipush (v := (-10)) hC dX11_weigh_92 (by decide +kernel) ?_
          refine J_callSv hC dX11_weigh_94 wl_X11_91 wi_X11 yi_X11_addTrust (c_X11_addTrust _ G b (m_payBack (m_regret g (nI vg) mc) ((g (76 + 5 * k_5)) / 2)) vg (-10) (by omega)) rfl rfl ⟨Nat.le_of_ble_eq_true rfl, Nat.le_of_ble_eq_true rfl⟩ (Nat.le_of_ble_eq_true rfl) (Nat.le_of_ble_eq_true rfl) (Nat.le_of_ble_eq_true rfl) (fun _ _ => ?_)
          refine J_lv (lv' := [(0, .ref b), (3, .int (nI k_5))]) [2, 1] rfl ?_
          exact (key _) k_5 (m_addTrust (m_payBack (m_regret g (nI vg) mc) ((g (76 + 5 * k_5)) / 2)) vg (-10)) (hk_5) (p_5) ((pk_un (by omega)).trans (((pk_un (by decide)).trans (pk_un (by decide))).trans ((m_regret_lo _ _ _ 8 (by decide) (by decide) (by decide)).trans (hbc)))) (by rw [m_weighMid, if_neg c_34, if_neg c_62, if_neg c_62]) (Nat.lt_succ_self _)
        · exfalso; omega
      · refine J_iload hC dX11_weigh_65 0 rfl ?_
        refine J_bipush (v := 10) hC dX11_weigh_67 (by decide +kernel) ?_
        refine J_iadd (v := (g (76 + 5 * k_5)) + 10) hC dX11_weigh_69 rfl ?_
        refine J_goto (tgt := 77) hC dX11_weigh_70 (by decide) ?_
        refine J_callSv hC dX11_weigh_77 wl_X11_87 wi_X11 yi_X11_payBack (c_X11_payBack _ G b (m_regret g (nI vg) mc) ((g (76 + 5 * k_5)) + 10)) rfl rfl ⟨Nat.le_of_ble_eq_true rfl, Nat.le_of_ble_eq_true rfl⟩ (Nat.le_of_ble_eq_true rfl) (Nat.le_of_ble_eq_true rfl) (Nat.le_of_ble_eq_true rfl) (fun _ _ => ?_)
        refine J_aload_n hC dX11_weigh_80 2 rfl rfl ?_
        refine J_iload_n hC dX11_weigh_81 3 rfl rfl ?_
        refine J_iload_n hC dX11_weigh_82 4 rfl rfl ?_
        refine J_iconst (v := 2) hC dX11_weigh_83 rfl ?_
        refine J_ic_neN (a := w) (b := 2) (tgt := 92) hC dX11_weigh_84 (by decide) (by omega) (by omega) (fun (c_84 : ¬ w = 2) => ?_) (fun (c_84 : w = 2) => ?_)
        · exfalso; omega
        · refine J_bipush (v := (-20)) hC dX11_weigh_87 (by decide +kernel) ?_
          refine J_goto (tgt := 94) hC dX11_weigh_89 (by decide) ?_
          refine J_callSv hC dX11_weigh_94 wl_X11_91 wi_X11 yi_X11_addTrust (c_X11_addTrust _ G b (m_payBack (m_regret g (nI vg) mc) ((g (76 + 5 * k_5)) + 10)) vg (-20) (by omega)) rfl rfl ⟨Nat.le_of_ble_eq_true rfl, Nat.le_of_ble_eq_true rfl⟩ (Nat.le_of_ble_eq_true rfl) (Nat.le_of_ble_eq_true rfl) (Nat.le_of_ble_eq_true rfl) (fun _ _ => ?_)
          refine J_lv (lv' := [(0, .ref b), (3, .int (nI k_5))]) [2, 1] rfl ?_
          exact (key _) k_5 (m_addTrust (m_payBack (m_regret g (nI vg) mc) ((g (76 + 5 * k_5)) + 10)) vg (-20)) (hk_5) (p_5) ((pk_un (by omega)).trans (((pk_un (by decide)).trans (pk_un (by decide))).trans ((m_regret_lo _ _ _ 8 (by decide) (by decide) (by decide)).trans (hbc)))) (by rw [m_weighMid, if_neg c_34, if_pos c_62, if_pos c_62]) (Nat.lt_succ_self _)
    · refine J_aload_n hC dX11_weigh_37 2 rfl rfl ?_
      refine J_bipush (v := 10) hC dX11_weigh_38 (by decide +kernel) ?_
      refine J_dup2 hC dX11_weigh_40 rfl rfl ?_
      refine J_iald (i := 10) (v := g 10) hC dX11_weigh_41 0 rfl (by omega) (by decide) rfl ?_
      refine J_iconst (v := 1) hC dX11_weigh_42 rfl ?_
      refine J_iadd (v := (g 10) + 1) hC dX11_weigh_43 rfl ?_
      refine J_iast (i := 10) (ws' := gW G b (upd g 10 ((g 10) + 1))) hC dX11_weigh_44 0 rfl (by omega) (by decide) rfl ?_
      refine J_aload_n hC dX11_weigh_45 2 rfl rfl ?_
      refine J_iload_n hC dX11_weigh_46 3 rfl rfl ?_
      refine J_iconst (v := 5) hC dX11_weigh_47 rfl ?_
      refine J_callSv hC dX11_weigh_48 wl_X11_91 wi_X11 yi_X11_addTrust (c_X11_addTrust _ G b (upd g 10 ((g 10) + 1)) vg 5 (by omega)) rfl rfl ⟨Nat.le_of_ble_eq_true rfl, Nat.le_of_ble_eq_true rfl⟩ (Nat.le_of_ble_eq_true rfl) (Nat.le_of_ble_eq_true rfl) (Nat.le_of_ble_eq_true rfl) (fun _ _ => ?_)
      refine J_goto (tgt := 97) hC dX11_weigh_51 (by decide) ?_
      refine J_lv (lv' := [(0, .ref b), (3, .int (nI k_5))]) [2, 1] rfl ?_
      exact (key _) k_5 (m_addTrust (upd g 10 ((g 10) + 1)) vg 5) (hk_5) (p_5) ((pk_un (by omega)).trans (hbc)) (by rw [m_weighMid, if_pos c_34]) (Nat.lt_succ_self _)

set_option maxRecDepth 100000 in
set_option maxHeartbeats 4000000 in
theorem c_X11_passDay (l : Launch) (G : gT) (b : Nat) (g : RT) (bc : Nat) (vc : Nat) (fc : Nat) (mc : Nat) (hbc : g 8 = nI bc) (bbc : bc ≤ 30) (hvc : g 6 = nI vc) (bvc : vc ≤ 6) (hfc : g 7 = nI fc) (bfc : fc ≤ 6) (hmc : g 9 = nI mc) (bmc : mc ≤ 10) (hmI : mI g bc vc fc mc) : MV l yX11_passDay cX11_passDay 3 { frames := 3, cells := 0, slots := 0, locals := 69 } [.ref (b)] G (gW G b g) (fun (_ : Unit) => True) (fun _ => gW G b (m_day g)) := by
  refine jm_v (own := RX11) (by decide) rfl (Nat.le_of_ble_eq_true rfl) (fun x hl hC hR hN => ?_)
  subst hl
  have key : ∀ fuel : Nat, (∀ (f : Nat) (T : RT) (bb : Nat) (mm : Nat), (f ≤ fc) → (mI T bb vc fc mm) → (m_dayF (upd g 5 (g 5 + 1)) = fo m_fairB f (fc - f) T) → 100 - f < fuel → J x G (gW G b T) 0 0 [(0, .ref b), (1, .int (nI f))] [] 9) ∧ (∀ (f : Nat) (T : RT) (bb : Nat) (mm : Nat), (f ≤ vc) → (mI T bb vc fc mm) → (m_dayV (m_dayF (upd g 5 (g 5 + 1))) = fo m_vilB f (vc - f) T) → 50 - f < fuel → J x G (gW G b T) 0 0 [(0, .ref b), (1, .int (nI f))] [] 41) := by
    intro fuel
    induction fuel with
    | zero => exact ⟨fun _ _ _ _ _ _ _ h => absurd h (Nat.not_lt_zero _), fun _ _ _ _ _ _ _ h => absurd h (Nat.not_lt_zero _)⟩
    | succ fuel ih =>
      refine ⟨?_, ?_⟩
      · intro f T bb mm hf hTI hF hmu
        have hbb := hTI.1.2
        have hmm := hTI.2.2.2.1.2
        refine J_iload_n hC dX11_passDay_9 1 rfl rfl ?_
        refine J_aload_n hC dX11_passDay_10 0 rfl rfl ?_
        refine J_bipush (v := 7) hC dX11_passDay_11 (by decide +kernel) ?_
        refine J_iald (i := 7) (v := T 7) hC dX11_passDay_13 0 rfl (by omega) (by decide) rfl ?_
        refine J_topi hTI.2.2.1.1 ?_
        refine J_ic_geN (a := f) (b := fc) (tgt := 39) hC dX11_passDay_14 (by decide) (by omega) (by omega) (fun (c_14 : fc ≤ f) => ?_) (fun (c_14 : f < fc) => ?_)
        · refine J_iconst (v := 0) hC dX11_passDay_39 rfl ?_
          refine J_istore_n hC [(1, .int 0), (0, .ref b)] dX11_passDay_40 rfl (by decide) rfl ?_
          refine J_lv (lv' := [(0, .ref b), (1, .int 0)]) [1, 0] rfl ?_
          exact ih.2 0 T bb mm (by omega) (hTI) (by rw [hF, fo_done c_14, m_dayV, m_vc_eq hTI.2.1.1 bvc]; rfl) (by omega)
        · refine J_aload_n hC dX11_passDay_17 0 rfl rfl ?_
          refine J_iload_n hC dX11_passDay_18 1 rfl rfl ?_
          refine J_aload_n hC dX11_passDay_19 0 rfl rfl ?_
          refine J_iconst (v := 5) hC dX11_passDay_20 rfl ?_
          refine J_iald (i := 5) (v := T 5) hC dX11_passDay_21 0 rfl (by omega) (by decide) rfl ?_
          refine J_callSi hC dX11_passDay_22 wl_X11_118 wi_X11 yi_X11_isHeld (c_X11_isHeld _ G b T f (T 5) (by omega) (by obtain ⟨p9, q1, q2, q3⟩ := hTI.2.2.2.2.2.1 f (by omega); rw [q3]; exact nI_ne0 (by omega) (by omega))) rfl rfl ⟨Nat.le_of_ble_eq_true rfl, Nat.le_of_ble_eq_true rfl⟩ (Nat.le_of_ble_eq_true rfl) (Nat.le_of_ble_eq_true rfl) (Nat.le_of_ble_eq_true rfl) (fun r u h_22 => ?_)
          rcases h_22 with ⟨rfl, c_22⟩ | ⟨rfl, c_22⟩
          · refine J_if_eq (tgt := 33) hC dX11_passDay_25 (by decide) (fun c => absurd c (by decide)) (fun _ => ?_)
            refine J_aload_n hC dX11_passDay_28 0 rfl rfl ?_
            refine J_iload_n hC dX11_passDay_29 1 rfl rfl ?_
            refine J_callSv hC dX11_passDay_30 wl_X11_122 wi_X11 yi_X11_holdFair (c_X11_holdFair _ G b T bb f (hTI.1.1) (by omega) (by omega) (fun k hk => by obtain ⟨w9, h9, e9⟩ := hTI.2.2.2.2.1 k hk; exact ⟨w9, by omega, e9⟩)) rfl rfl ⟨Nat.le_of_ble_eq_true rfl, Nat.le_of_ble_eq_true rfl⟩ (Nat.le_of_ble_eq_true rfl) (Nat.le_of_ble_eq_true rfl) (Nat.le_of_ble_eq_true rfl) (fun _ _ => ?_)
            refine J_iinc hC [(1, .int (nI (f + 1))), (0, .ref b)] dX11_passDay_33 1 rfl (nI_inc _) (by decide) rfl ?_
            refine J_goto (tgt := 9) hC dX11_passDay_36 (by decide) ?_
            refine J_lv (lv' := [(0, .ref b), (1, .int (nI (f + 1)))]) [1, 0] rfl ?_
            exact ih.1 (f + 1) (m_holdFair T f bb) bb mm (by omega) (hTI.holdFair f bb) (hF.trans ((fo_step c_14).trans (congrArg _ (by rw [m_fairB, if_pos c_22, m_bc_eq hTI.1.1 hTI.1.2])))) (by omega)
          · refine J_if_eq (tgt := 33) hC dX11_passDay_25 (by decide) (fun _ => ?_) (fun c => absurd (by decide) c)
            refine J_iinc hC [(1, .int (nI (f + 1))), (0, .ref b)] dX11_passDay_33 1 rfl (nI_inc _) (by decide) rfl ?_
            refine J_goto (tgt := 9) hC dX11_passDay_36 (by decide) ?_
            refine J_lv (lv' := [(0, .ref b), (1, .int (nI (f + 1)))]) [1, 0] rfl ?_
            exact ih.1 (f + 1) T bb mm (by omega) (hTI) (hF.trans ((fo_step c_14).trans (congrArg _ (by rw [m_fairB, if_neg c_22])))) (by omega)
      · intro f T bb mm hf hTI hV hmu
        have hbb := hTI.1.2
        have hmm := hTI.2.2.2.1.2
        refine J_iload_n hC dX11_passDay_41 1 rfl rfl ?_
        refine J_aload_n hC dX11_passDay_42 0 rfl rfl ?_
        refine J_bipush (v := 6) hC dX11_passDay_43 (by decide +kernel) ?_
        refine J_iald (i := 6) (v := T 6) hC dX11_passDay_45 0 rfl (by omega) (by decide) rfl ?_
        refine J_topi hTI.2.1.1 ?_
        refine J_ic_geN (a := f) (b := vc) (tgt := 88) hC dX11_passDay_46 (by decide) (by omega) (by omega) (fun (c_46 : vc ≤ f) => ?_) (fun (c_46 : f < vc) => ?_)
        · refine J_aload_n hC dX11_passDay_88 0 rfl rfl ?_
          refine J_iconst (v := 5) hC dX11_passDay_89 rfl ?_
          refine J_iald (i := 5) (v := T 5) hC dX11_passDay_90 0 rfl (by omega) (by decide) rfl ?_
          refine J_bipush (v := 12) hC dX11_passDay_91 (by decide +kernel) ?_
          refine J_irem (v := imod (T 5) 12) hC dX11_passDay_93 (by decide) rfl ?_
          refine J_if_ne (tgt := 101) hC dX11_passDay_94 (by decide) (fun (c_94 : ¬ (imod (T 5) 12) = 0) => ?_) (fun (c_94 : (imod (T 5) 12) = 0) => ?_)
          · refine J_vret hC hR dX11_passDay_101 () ?_ ?_ (by decide) (by decide)
            · trivial
            · rw [m_day, hV, fo_done c_46, m_dayY, if_neg c_94]
          · refine J_aload_n hC dX11_passDay_97 0 rfl rfl ?_
            refine J_callSv hC dX11_passDay_98 wl_X11_134 wi_X11 yi_X11_endYear (c_X11_endYear _ G b T) rfl rfl ⟨Nat.le_of_ble_eq_true rfl, Nat.le_of_ble_eq_true rfl⟩ (Nat.le_of_ble_eq_true rfl) (Nat.le_of_ble_eq_true rfl) (Nat.le_of_ble_eq_true rfl) (fun _ _ => ?_)
            refine J_vret hC hR dX11_passDay_101 () ?_ ?_ (by decide) (by decide)
            · trivial
            · rw [m_day, hV, fo_done c_46, m_dayY, if_pos c_94]
        · obtain ⟨oa, ob, oc, boa, bob, boc, h1o, hoa, hob, hoc⟩ := hTI.2.2.2.2.2.2.1
          obtain ⟨s9, hs9, es9⟩ := hTI.2.2.2.2.2.2.2
          obtain ⟨sd, hsd, esd⟩ : ∃ sd, sd < 1024 ∧ s_seed (T 0) = nI sd := ⟨(29 * s9 + 11) % 1024, by omega, by rw [es9]; exact seed_nat hs9⟩
          obtain ⟨w, hw3, ew⟩ : ∃ w, w < 3 ∧ m_wb T (s_seed (T 0)) = w := ⟨_, m_wb_lt _ _, rfl⟩
          refine J_aload_n hC dX11_passDay_49 0 rfl rfl ?_
          refine J_iconst (v := 0) hC dX11_passDay_50 rfl ?_
          refine J_aload_n hC dX11_passDay_51 0 rfl rfl ?_
          refine J_iconst (v := 0) hC dX11_passDay_52 rfl ?_
          refine J_iald (i := 0) (v := T 0) hC dX11_passDay_53 0 rfl (by omega) (by decide) rfl ?_
          refine J_callSi hC dX11_passDay_54 wl_X11_125 wi_X11 yi_X11_seedBehind (c_X11_seedBehind _ G (gW G b T) (T 0)) rfl rfl ⟨Nat.le_of_ble_eq_true rfl, Nat.le_of_ble_eq_true rfl⟩ (Nat.le_of_ble_eq_true rfl) (Nat.le_of_ble_eq_true rfl) (Nat.le_of_ble_eq_true rfl) (fun r u h_54 => ?_)
          subst h_54
          refine J_iast (i := 0) (ws' := gW G b (upd T 0 (s_seed (T 0)))) hC dX11_passDay_57 0 rfl (by omega) (by decide) rfl ?_
          refine J_aload_n hC dX11_passDay_58 0 rfl rfl ?_
          refine J_aload_n hC dX11_passDay_59 0 rfl rfl ?_
          refine J_iconst (v := 0) hC dX11_passDay_60 rfl ?_
          refine J_iald (i := 0) (v := s_seed (T 0)) hC dX11_passDay_61 0 rfl (by omega) (by decide) pk_us ?_
          refine J_topi esd ?_
          refine J_callSi hC dX11_passDay_62 wl_X11_128 wi_X11 yi_X11_weatherBy (c_X11_weatherBy _ G b (upd T 0 (s_seed (T 0))) oa ob oc sd (((pk_un (by omega))).trans (hoa)) (by omega) (((pk_un (by omega))).trans (hob)) (by omega) (((pk_un (by omega))).trans (hoc)) (by omega) (by omega) (by omega)) rfl rfl ⟨Nat.le_of_ble_eq_true rfl, Nat.le_of_ble_eq_true rfl⟩ (Nat.le_of_ble_eq_true rfl) (Nat.le_of_ble_eq_true rfl) (Nat.le_of_ble_eq_true rfl) (fun r u h_62 => ?_)
          subst h_62
          refine J_topi (w := nI w) (congrArg nI (show m_wb (upd T 0 (s_seed (T 0))) (nI sd) = w by rw [← ew, esd]; rfl)) ?_
          refine J_istore_n hC [(2, .int (nI w)), (0, .ref b), (1, .int (nI f))] dX11_passDay_65 rfl (by decide) rfl ?_
          refine J_aload_n hC dX11_passDay_66 1 rfl rfl ?_
          refine J_bipush (v := 17) hC dX11_passDay_67 (by decide +kernel) ?_
          refine J_iload_n hC dX11_passDay_69 0 rfl rfl ?_
          refine J_iadd (v := nI (17 + w)) hC dX11_passDay_70 (nI_add 17 w) ?_
          refine J_dup2 hC dX11_passDay_71 rfl rfl ?_
          refine J_iald (i := 17 + w) (v := T (17 + w)) hC dX11_passDay_72 0 rfl (by omega) (by decide) (pk_un (by omega)) ?_
          refine J_iconst (v := 1) hC dX11_passDay_73 rfl ?_
          refine J_iadd (v := (T (17 + w)) + 1) hC dX11_passDay_74 rfl ?_
          refine J_iast (i := 17 + w) (ws' := gW G b (upd (upd T 0 (s_seed (T 0))) (17 + w) ((T (17 + w)) + 1))) hC dX11_passDay_75 0 rfl (by omega) (by decide) rfl ?_
          refine J_aload_n hC dX11_passDay_76 1 rfl rfl ?_
          refine J_iload_n hC dX11_passDay_77 2 rfl rfl ?_
          refine J_iload_n hC dX11_passDay_78 0 rfl rfl ?_
          refine J_callSv hC dX11_passDay_79 wl_X11_131 wi_X11 yi_X11_weigh (c_X11_weigh _ G b (upd (upd T 0 (s_seed (T 0))) (17 + w) ((T (17 + w)) + 1)) bb mm f w ((((pk_un (by omega)).trans (pk_un (by omega)))).trans (hTI.1.1)) (by omega) ((((pk_un (by omega)).trans (pk_un (by omega)))).trans (hTI.2.2.2.1.1)) (by omega) (by omega) (by omega)) rfl rfl ⟨Nat.le_of_ble_eq_true rfl, Nat.le_of_ble_eq_true rfl⟩ (Nat.le_of_ble_eq_true rfl) (Nat.le_of_ble_eq_true rfl) (Nat.le_of_ble_eq_true rfl) (fun _ _ => ?_)
          have eV : (m_weigh (upd (upd T 0 (s_seed (T 0))) (17 + w) ((T (17 + w)) + 1)) f w bb mm) = m_vilB f T := by rw [m_vilB, m_drawn, ew, m_bc_eq hTI.1.1 hTI.1.2, m_mc_eq hTI.2.2.2.1.1 hTI.2.2.2.1.2]
          obtain ⟨b2, m2, hb2, hI2⟩ := hTI.vilB f (by omega)
          refine J_iinc hC [(1, .int (nI (f + 1))), (2, .int (nI w)), (0, .ref b)] dX11_passDay_82 2 rfl (nI_inc _) (by decide) rfl ?_
          refine J_goto (tgt := 41) hC dX11_passDay_85 (by decide) ?_
          refine J_lv (lv' := [(0, .ref b), (1, .int (nI (f + 1)))]) [2, 0] rfl ?_
          exact ih.2 (f + 1) (m_weigh (upd (upd T 0 (s_seed (T 0))) (17 + w) ((T (17 + w)) + 1)) f w bb mm) b2 m2 (by omega) (by rw [eV]; exact hI2) (hV.trans ((fo_step c_46).trans (congrArg _ eV.symm))) (by omega)
  refine J_aload_n hC dX11_passDay_0 0 rfl rfl ?_
  refine J_iconst (v := 5) hC dX11_passDay_1 rfl ?_
  refine J_dup2 hC dX11_passDay_2 rfl rfl ?_
  refine J_iald (i := 5) (v := g 5) hC dX11_passDay_3 0 rfl (by omega) (by decide) rfl ?_
  refine J_iconst (v := 1) hC dX11_passDay_4 rfl ?_
  refine J_iadd (v := (g 5) + 1) hC dX11_passDay_5 rfl ?_
  refine J_iast (i := 5) (ws' := gW G b (upd g 5 ((g 5) + 1))) hC dX11_passDay_6 0 rfl (by omega) (by decide) rfl ?_
  refine J_iconst (v := 0) hC dX11_passDay_7 rfl ?_
  refine J_istore_n hC [(1, .int 0), (0, .ref b)] dX11_passDay_8 rfl (by decide) rfl ?_
  refine J_lv (lv' := [(0, .ref b), (1, .int 0)]) [1, 0] rfl ?_
  exact ((key _).1) 0 (upd g 5 ((g 5) + 1)) bc mc (by omega) (hmI.upd 5 _ (by omega)) (by rw [m_dayF, m_fc_eq (hmI.upd 5 (g 5 + 1) (by omega)).2.2.1.1 bfc]; rfl) (Nat.lt_succ_self _)

set_option maxRecDepth 100000 in
set_option maxHeartbeats 4000000 in
theorem c_X11_passMany (l : Launch) (G : gT) (b : Nat) (g : RT) (bc : Nat) (vc : Nat) (fc : Nat) (mc : Nat) (n : Nat) (hbc : g 8 = nI bc) (bbc : bc ≤ 30) (hvc : g 6 = nI vc) (bvc : vc ≤ 6) (hfc : g 7 = nI fc) (bfc : fc ≤ 6) (hmc : g 9 = nI mc) (bmc : mc ≤ 10) (hn : n ≤ 200) (hmI : mI g bc vc fc mc) : MI l yX11_passMany cX11_passMany 4 (some .int) { frames := 4, cells := 0, slots := 0, locals := 91 } [.ref (b), .int (nI n)] G (gW G b g) (fun r (_ : Unit) => r = m_days n g 11 - g 11) (fun _ => gW G b (m_days n g)) := by
  refine jm_i (own := RX11) (by decide) rfl (Nat.le_of_ble_eq_true rfl) (fun x hl hC hR hN => ?_)
  subst hl
  have key : ∀ fuel : Nat, (∀ (i : Nat) (T : RT) (bb : Nat) (mm : Nat), (i ≤ n) → (mI T bb vc fc mm) → (m_days n g = fo m_dayB i (n - i) T) → n - i < fuel → J x G (gW G b T) 0 0 [(0, .ref b), (1, .int (nI n)), (2, .int (g 11)), (3, .int (nI i))] [] 7) := by
    intro fuel
    induction fuel with
    | zero => exact fun _ _ _ _ _ _ _ h => absurd h (Nat.not_lt_zero _)
    | succ fuel ih =>
      intro i T bb mm hi hTI hI hmu
      have hbb := hTI.1.2
      have hmm := hTI.2.2.2.1.2
      refine J_iload_n hC dX11_passMany_7 3 rfl rfl ?_
      refine J_iload_n hC dX11_passMany_8 1 rfl rfl ?_
      refine J_ic_geN (a := i) (b := n) (tgt := 22) hC dX11_passMany_9 (by decide) (by omega) (by omega) (fun (c_9 : n ≤ i) => ?_) (fun (c_9 : i < n) => ?_)
      · refine J_aload_n hC dX11_passMany_22 0 rfl rfl ?_
        refine J_bipush (v := 11) hC dX11_passMany_23 (by decide +kernel) ?_
        refine J_iald (i := 11) (v := T 11) hC dX11_passMany_25 0 rfl (by omega) (by decide) rfl ?_
        refine J_iload_n hC dX11_passMany_26 2 rfl rfl ?_
        refine J_isub (v := (T 11) - (g 11)) hC dX11_passMany_27 rfl ?_
        refine J_iret hC hR dX11_passMany_28 rfl () ?_ ?_ (by decide) (by decide)
        · rw [hI, fo_done c_9]
        · rw [hI, fo_done c_9]
      · refine J_aload_n hC dX11_passMany_12 0 rfl rfl ?_
        refine J_callSv hC dX11_passMany_13 wl_X11_138 wi_X11 yi_X11_passDay (c_X11_passDay _ G b T bb vc fc mm (hTI.1.1) (by omega) (hTI.2.1.1) (by omega) (hTI.2.2.1.1) (by omega) (hTI.2.2.2.1.1) (by omega) (hTI)) rfl rfl ⟨Nat.le_of_ble_eq_true rfl, Nat.le_of_ble_eq_true rfl⟩ (Nat.le_of_ble_eq_true rfl) (Nat.le_of_ble_eq_true rfl) (Nat.le_of_ble_eq_true rfl) (fun _ _ => ?_)
        obtain ⟨b2, m2, hb2, hI2⟩ := hTI.day
        refine J_iinc hC [(3, .int (nI (i + 1))), (0, .ref b), (1, .int (nI n)), (2, .int (g 11))] dX11_passMany_16 3 rfl (nI_inc _) (by decide) rfl ?_
        refine J_goto (tgt := 7) hC dX11_passMany_19 (by decide) ?_
        refine J_lv (lv' := [(0, .ref b), (1, .int (nI n)), (2, .int (g 11)), (3, .int (nI (i + 1)))]) [1, 2, 3, 0] rfl ?_
        exact ih (i + 1) (m_day T) b2 m2 (by omega) (hI2) (hI.trans (fo_step c_9)) (by omega)
  refine J_aload_n hC dX11_passMany_0 0 rfl rfl ?_
  refine J_bipush (v := 11) hC dX11_passMany_1 (by decide +kernel) ?_
  refine J_iald (i := 11) (v := g 11) hC dX11_passMany_3 0 rfl (by omega) (by decide) rfl ?_
  refine J_istore_n hC [(2, .int (g 11)), (0, .ref b), (1, .int (nI n))] dX11_passMany_4 rfl (by decide) rfl ?_
  refine J_iconst (v := 0) hC dX11_passMany_5 rfl ?_
  refine J_istore_n hC [(3, .int 0), (2, .int (g 11)), (0, .ref b), (1, .int (nI n))] dX11_passMany_6 rfl (by decide) rfl ?_
  refine J_lv (lv' := [(0, .ref b), (1, .int (nI n)), (2, .int (g 11)), (3, .int 0)]) [2, 3, 1, 0] rfl ?_
  exact (key _) 0 g bc mc (by omega) (hmI) (rfl) (Nat.lt_succ_self _)

set_option maxRecDepth 100000 in
set_option maxHeartbeats 4000000 in
theorem c_X11_villageNamed (l : Launch) (G : gT) (b : Nat) (g : RT) (vc : Nat) (nm : Int32) (hvc : g 6 = nI vc) (bvc : vc ≤ 6) : MI l yX11_villageNamed cX11_villageNamed 3 (some .int) { frames := 1, cells := 0, slots := 0, locals := 20 } [.ref (b), .int nm] G (gW G b g) (fun r (_ : Unit) => r = fnd (fun i => decide (g (24 + 3 * i) = nm)) 0 vc) (fun _ => gW G b g) := by
  refine jm_i (own := RX11) (by decide) rfl (Nat.le_of_ble_eq_true rfl) (fun x hl hC hR hN => ?_)
  subst hl
  have key : ∀ fuel : Nat, (∀ (i : Nat), (i ≤ vc) → (fnd (fun i => decide (g (24 + 3 * i) = nm)) 0 vc = fnd (fun i => decide (g (24 + 3 * i) = nm)) i (vc - i)) → vc - i < fuel → J x G (gW G b g) 0 0 [(0, .ref b), (1, .int nm), (2, .int (nI i))] [] 2) := by
    intro fuel
    induction fuel with
    | zero => exact fun _ _ _ h => absurd h (Nat.not_lt_zero _)
    | succ fuel ih =>
      intro i hi hI hmu
      refine J_iload_n hC dX11_villageNamed_2 2 rfl rfl ?_
      refine J_aload_n hC dX11_villageNamed_3 0 rfl rfl ?_
      refine J_bipush (v := 6) hC dX11_villageNamed_4 (by decide +kernel) ?_
      refine J_iald (i := 6) (v := g 6) hC dX11_villageNamed_6 0 rfl (by omega) (by decide) rfl ?_
      refine J_topi hvc ?_
      refine J_ic_geN (a := i) (b := vc) (tgt := 30) hC dX11_villageNamed_7 (by decide) (by omega) (by omega) (fun (c_7 : vc ≤ i) => ?_) (fun (c_7 : i < vc) => ?_)
      · refine J_iconst (v := (-1)) hC dX11_villageNamed_30 rfl ?_
        refine J_iret hC hR dX11_villageNamed_31 rfl () ?_ ?_ (by decide) (by decide)
        · exact (hI.trans (fnd_done c_7)).symm
        · rfl
      · refine J_aload_n hC dX11_villageNamed_10 0 rfl rfl ?_
        refine J_iload_n hC dX11_villageNamed_11 2 rfl rfl ?_
        refine J_callSi hC dX11_villageNamed_12 wl_X11_81 wi_X11 yi_X11_ofVillage (c_X11_ofVillage _ G (gW G b g) i) rfl rfl ⟨Nat.le_of_ble_eq_true rfl, Nat.le_of_ble_eq_true rfl⟩ (Nat.le_of_ble_eq_true rfl) (Nat.le_of_ble_eq_true rfl) (Nat.le_of_ble_eq_true rfl) (fun r u h_12 => ?_)
        subst h_12
        refine J_iconst (v := 0) hC dX11_villageNamed_15 rfl ?_
        refine J_iadd (v := nI (24 + 3 * i)) hC dX11_villageNamed_16 (Int32.add_zero _) ?_
        refine J_iald (i := 24 + 3 * i) (v := g (24 + 3 * i)) hC dX11_villageNamed_17 0 rfl (by omega) (by decide) rfl ?_
        refine J_iload_n hC dX11_villageNamed_18 1 rfl rfl ?_
        refine J_ic_ne (tgt := 24) hC dX11_villageNamed_19 (by decide) (fun (c_19 : ¬ (g (24 + 3 * i)) = nm) => ?_) (fun (c_19 : (g (24 + 3 * i)) = nm) => ?_)
        · refine J_iinc hC [(2, .int (nI (i + 1))), (0, .ref b), (1, .int nm)] dX11_villageNamed_24 2 rfl (nI_inc _) (by decide) rfl ?_
          refine J_goto (tgt := 2) hC dX11_villageNamed_27 (by decide) ?_
          refine J_lv (lv' := [(0, .ref b), (1, .int nm), (2, .int (nI (i + 1)))]) [1, 2, 0] rfl ?_
          exact ih (i + 1) (by omega) (hI.trans (fnd_step c_7 (by simp [c_7, c_19]))) (by omega)
        · refine J_iload_n hC dX11_villageNamed_22 2 rfl rfl ?_
          refine J_iret hC hR dX11_villageNamed_23 rfl () ?_ ?_ (by decide) (by decide)
          · exact (hI.trans (fnd_hit c_7 (by simp [c_7, c_19]))).symm
          · rfl
  refine J_iconst (v := 0) hC dX11_villageNamed_0 rfl ?_
  refine J_istore_n hC [(2, .int 0), (0, .ref b), (1, .int nm)] dX11_villageNamed_1 rfl (by decide) rfl ?_
  refine J_lv (lv' := [(0, .ref b), (1, .int nm), (2, .int 0)]) [1, 2, 0] rfl ?_
  exact (key _) 0 (by omega) (rfl) (Nat.lt_succ_self _)

set_option maxRecDepth 100000 in
set_option maxHeartbeats 4000000 in
theorem c_X11_fairNamed (l : Launch) (G : gT) (b : Nat) (g : RT) (fc : Nat) (nm : Int32) (hfc : g 7 = nI fc) (bfc : fc ≤ 6) : MI l yX11_fairNamed cX11_fairNamed 3 (some .int) { frames := 1, cells := 0, slots := 0, locals := 20 } [.ref (b), .int nm] G (gW G b g) (fun r (_ : Unit) => r = fnd (fun i => decide (g (42 + 5 * i) = nm)) 0 fc) (fun _ => gW G b g) := by
  refine jm_i (own := RX11) (by decide) rfl (Nat.le_of_ble_eq_true rfl) (fun x hl hC hR hN => ?_)
  subst hl
  have key : ∀ fuel : Nat, (∀ (i : Nat), (i ≤ fc) → (fnd (fun i => decide (g (42 + 5 * i) = nm)) 0 fc = fnd (fun i => decide (g (42 + 5 * i) = nm)) i (fc - i)) → fc - i < fuel → J x G (gW G b g) 0 0 [(0, .ref b), (1, .int nm), (2, .int (nI i))] [] 2) := by
    intro fuel
    induction fuel with
    | zero => exact fun _ _ _ h => absurd h (Nat.not_lt_zero _)
    | succ fuel ih =>
      intro i hi hI hmu
      refine J_iload_n hC dX11_fairNamed_2 2 rfl rfl ?_
      refine J_aload_n hC dX11_fairNamed_3 0 rfl rfl ?_
      refine J_bipush (v := 7) hC dX11_fairNamed_4 (by decide +kernel) ?_
      refine J_iald (i := 7) (v := g 7) hC dX11_fairNamed_6 0 rfl (by omega) (by decide) rfl ?_
      refine J_topi hfc ?_
      refine J_ic_geN (a := i) (b := fc) (tgt := 30) hC dX11_fairNamed_7 (by decide) (by omega) (by omega) (fun (c_7 : fc ≤ i) => ?_) (fun (c_7 : i < fc) => ?_)
      · refine J_iconst (v := (-1)) hC dX11_fairNamed_30 rfl ?_
        refine J_iret hC hR dX11_fairNamed_31 rfl () ?_ ?_ (by decide) (by decide)
        · exact (hI.trans (fnd_done c_7)).symm
        · rfl
      · refine J_aload_n hC dX11_fairNamed_10 0 rfl rfl ?_
        refine J_iload_n hC dX11_fairNamed_11 2 rfl rfl ?_
        refine J_callSi hC dX11_fairNamed_12 wl_X11_98 wi_X11 yi_X11_ofFair (c_X11_ofFair _ G (gW G b g) i) rfl rfl ⟨Nat.le_of_ble_eq_true rfl, Nat.le_of_ble_eq_true rfl⟩ (Nat.le_of_ble_eq_true rfl) (Nat.le_of_ble_eq_true rfl) (Nat.le_of_ble_eq_true rfl) (fun r u h_12 => ?_)
        subst h_12
        refine J_iconst (v := 0) hC dX11_fairNamed_15 rfl ?_
        refine J_iadd (v := nI (42 + 5 * i)) hC dX11_fairNamed_16 (Int32.add_zero _) ?_
        refine J_iald (i := 42 + 5 * i) (v := g (42 + 5 * i)) hC dX11_fairNamed_17 0 rfl (by omega) (by decide) rfl ?_
        refine J_iload_n hC dX11_fairNamed_18 1 rfl rfl ?_
        refine J_ic_ne (tgt := 24) hC dX11_fairNamed_19 (by decide) (fun (c_19 : ¬ (g (42 + 5 * i)) = nm) => ?_) (fun (c_19 : (g (42 + 5 * i)) = nm) => ?_)
        · refine J_iinc hC [(2, .int (nI (i + 1))), (0, .ref b), (1, .int nm)] dX11_fairNamed_24 2 rfl (nI_inc _) (by decide) rfl ?_
          refine J_goto (tgt := 2) hC dX11_fairNamed_27 (by decide) ?_
          refine J_lv (lv' := [(0, .ref b), (1, .int nm), (2, .int (nI (i + 1)))]) [1, 2, 0] rfl ?_
          exact ih (i + 1) (by omega) (hI.trans (fnd_step c_7 (by simp [c_7, c_19]))) (by omega)
        · refine J_iload_n hC dX11_fairNamed_22 2 rfl rfl ?_
          refine J_iret hC hR dX11_fairNamed_23 rfl () ?_ ?_ (by decide) (by decide)
          · exact (hI.trans (fnd_hit c_7 (by simp [c_7, c_19]))).symm
          · rfl
  refine J_iconst (v := 0) hC dX11_fairNamed_0 rfl ?_
  refine J_istore_n hC [(2, .int 0), (0, .ref b), (1, .int nm)] dX11_fairNamed_1 rfl (by decide) rfl ?_
  refine J_lv (lv' := [(0, .ref b), (1, .int nm), (2, .int 0)]) [1, 2, 0] rfl ?_
  exact (key _) 0 (by omega) (rfl) (Nat.lt_succ_self _)

set_option maxRecDepth 100000 in
set_option maxHeartbeats 4000000 in
theorem c_X11_copyRow (l : Launch) (G : gT) (b1 b2 n1 n2 : Nat) (f : RT) (h : RT) (sp : Nat) (dp : Nat) (h1 : sp + 242 ≤ n1) (h2 : dp + 242 ≤ n2) (h3 : n1 < 10000) (h4 : n2 < 10000) : MV l yX11_copyRow cX11_copyRow 5 { frames := 0, cells := 0, slots := 0, locals := 0 } [.ref (b1), .int (nI sp), .ref (b2), .int (nI dp)] G (hW G b1 b2 n1 n2 f h) (fun (_ : Unit) => True) (fun _ => hW G b1 b2 n1 n2 f (va_cpy f h sp dp 242)) := by
  refine jm_v (own := RX11) (by decide) rfl (Nat.le_of_ble_eq_true rfl) (fun x hl hC hR hN => ?_)
  subst hl
  have key : ∀ fuel : Nat, (∀ (i : Nat) (T : RT), (i ≤ 242) → (T = va_cpy f h sp dp i) → 242 - i < fuel → J x G (hW G b1 b2 n1 n2 f T) 0 0 [(0, .ref b1), (1, .int (nI sp)), (2, .ref b2), (3, .int (nI dp)), (4, .int (nI i))] [] 3) := by
    intro fuel
    induction fuel with
    | zero => exact fun _ _ _ _ h => absurd h (Nat.not_lt_zero _)
    | succ fuel ih =>
      intro i T hi hI hmu
      refine J_iload hC dX11_copyRow_3 4 rfl ?_
      refine J_sipush (v := 242) hC dX11_copyRow_5 (by decide +kernel) ?_
      refine J_ic_geN (a := i) (b := 242) (tgt := 29) hC dX11_copyRow_8 (by decide) (by omega) (by omega) (fun (c_8 : 242 ≤ i) => ?_) (fun (c_8 : i < 242) => ?_)
      · refine J_vret hC hR dX11_copyRow_29 () ?_ ?_ (by decide) (by decide)
        · trivial
        · rw [hI, show i = 242 by omega]
      · refine J_aload_n hC dX11_copyRow_11 2 rfl rfl ?_
        refine J_iload_n hC dX11_copyRow_12 3 rfl rfl ?_
        refine J_iload hC dX11_copyRow_13 4 rfl ?_
        refine J_iadd (v := nI (dp + i)) hC dX11_copyRow_15 (nI_add dp i) ?_
        refine J_aload_n hC dX11_copyRow_16 0 rfl rfl ?_
        refine J_iload_n hC dX11_copyRow_17 1 rfl rfl ?_
        refine J_iload hC dX11_copyRow_18 4 rfl ?_
        refine J_iadd (v := nI (i + sp)) hC dX11_copyRow_20 ((nI_add sp i).trans (congrArg nI (by omega))) ?_
        refine J_iald (i := i + sp) (v := f (i + sp)) hC dX11_copyRow_21 0 rfl (by omega) (by omega) rfl ?_
        refine J_iast (i := dp + i) (ws' := hW G b1 b2 n1 n2 f (upd T (dp + i) (f (i + sp)))) hC dX11_copyRow_22 1 rfl (by omega) (by omega) rfl ?_
        refine J_iinc hC [(4, .int (nI (i + 1))), (0, .ref b1), (1, .int (nI sp)), (2, .ref b2), (3, .int (nI dp))] dX11_copyRow_23 4 rfl (nI_inc _) (by decide) rfl ?_
        refine J_goto (tgt := 3) hC dX11_copyRow_26 (by decide) ?_
        refine J_lv (lv' := [(0, .ref b1), (1, .int (nI sp)), (2, .ref b2), (3, .int (nI dp)), (4, .int (nI (i + 1)))]) [1, 2, 3, 4, 0] rfl ?_
        exact ih (i + 1) (upd T (dp + i) (f (i + sp))) (by omega) (by rw [hI, Nat.add_comm i sp]; exact cpy_succ f h sp dp i) (by omega)
  refine J_iconst (v := 0) hC dX11_copyRow_0 rfl ?_
  refine J_istore hC [(4, .int 0), (0, .ref b1), (1, .int (nI sp)), (2, .ref b2), (3, .int (nI dp))] dX11_copyRow_1 (by decide) rfl ?_
  refine J_lv (lv' := [(0, .ref b1), (1, .int (nI sp)), (2, .ref b2), (3, .int (nI dp)), (4, .int 0)]) [1, 2, 3, 4, 0] rfl ?_
  exact (key _) 0 h (by omega) ((cpy_0 f h sp dp).symm) (Nat.lt_succ_self _)

/-- an AlmanacOffice and its state alone -/
def oW (G : gT) (o : Nat) (R a : Nat → Nat) (S : CT) (ec ep : Int32) : va_W := (o, .inr (10, [.ref (R 0), .ref (R 1), .ref (a 0), .ref (R 2), .ref (R 3), .ref (R 4), .ref (R 5), .int ec, .int ep])) :: stW G a S

set_option maxRecDepth 100000 in
set_option maxHeartbeats 4000000 in
theorem c_X10_errorCode (l : Launch) (G : gT) (o : Nat) (R a : Nat → Nat) (S : CT) (ec : Int32) (ep : Int32) (hI : CI S) : MI l yX10_errorCode cX10_errorCode 1 (some .int) { frames := 0, cells := 0, slots := 0, locals := 0 } [.ref (o)] G (oW G o R a S ec ep) (fun r (_ : Unit) => r = ec) (fun _ => oW G o R a S ec ep) := by
  refine jm_i (own := RX10) (by decide) rfl (Nat.le_of_ble_eq_true rfl) (fun x hl hC hR hN => ?_)
  subst hl
  refine J_aload_n hC dX10_errorCode_0 0 rfl rfl ?_
  refine J_get (v := .int ec) hC wu_X10 rfl dX10_errorCode_1 0 7 (by decide) wf_X10_44 rfl rfl ?_
  refine J_iret hC hR dX10_errorCode_4 rfl () ?_ ?_ (by decide) (by decide)
  · rfl
  · rfl

set_option maxRecDepth 100000 in
set_option maxHeartbeats 4000000 in
theorem c_X10_day (l : Launch) (G : gT) (o : Nat) (R a : Nat → Nat) (S : CT) (ec : Int32) (ep : Int32) (hI : CI S) : MI l yX10_day cX10_day 1 (some .int) { frames := 0, cells := 0, slots := 0, locals := 0 } [.ref (o)] G (oW G o R a S ec ep) (fun r (_ : Unit) => r = S 16 0) (fun _ => oW G o R a S ec ep) := by
  refine jm_i (own := RX10) (by decide) rfl (Nat.le_of_ble_eq_true rfl) (fun x hl hC hR hN => ?_)
  subst hl
  refine J_aload_n hC dX10_day_0 0 rfl rfl ?_
  refine J_get (v := .ref (a 0)) hC wu_X10 rfl dX10_day_1 0 2 (by decide) wf_X10_22 rfl rfl ?_
  refine J_get (v := .int (S 16 0)) hC wu_X8 rfl dX10_day_4 1 5 (by decide) wf_X10_108 rfl rfl ?_
  refine J_iret hC hR dX10_day_7 rfl () ?_ ?_ (by decide) (by decide)
  · rfl
  · rfl

set_option maxRecDepth 100000 in
set_option maxHeartbeats 4000000 in
theorem c_X10_seed (l : Launch) (G : gT) (o : Nat) (R a : Nat → Nat) (S : CT) (ec : Int32) (ep : Int32) (hI : CI S) : MI l yX10_seed cX10_seed 1 (some .int) { frames := 0, cells := 0, slots := 0, locals := 0 } [.ref (o)] G (oW G o R a S ec ep) (fun r (_ : Unit) => r = S 16 11) (fun _ => oW G o R a S ec ep) := by
  refine jm_i (own := RX10) (by decide) rfl (Nat.le_of_ble_eq_true rfl) (fun x hl hC hR hN => ?_)
  subst hl
  refine J_aload_n hC dX10_seed_0 0 rfl rfl ?_
  refine J_get (v := .ref (a 0)) hC wu_X10 rfl dX10_seed_1 0 2 (by decide) wf_X10_22 rfl rfl ?_
  refine J_get (v := .ref (a 11)) hC wu_X8 rfl dX10_seed_4 1 2 (by decide) wf_X10_111 rfl rfl ?_
  refine J_get (v := .int (S 16 11)) hC wu_X7 rfl dX10_seed_7 12 2 (by decide) wf_X10_115 rfl rfl ?_
  refine J_iret hC hR dX10_seed_10 rfl () ?_ ?_ (by decide) (by decide)
  · rfl
  · rfl

set_option maxRecDepth 100000 in
set_option maxHeartbeats 4000000 in
theorem c_X10_coins (l : Launch) (G : gT) (o : Nat) (R a : Nat → Nat) (S : CT) (ec : Int32) (ep : Int32) (hI : CI S) : MI l yX10_coins cX10_coins 1 (some .int) { frames := 0, cells := 0, slots := 0, locals := 0 } [.ref (o)] G (oW G o R a S ec ep) (fun r (_ : Unit) => r = S 16 1) (fun _ => oW G o R a S ec ep) := by
  refine jm_i (own := RX10) (by decide) rfl (Nat.le_of_ble_eq_true rfl) (fun x hl hC hR hN => ?_)
  subst hl
  refine J_aload_n hC dX10_coins_0 0 rfl rfl ?_
  refine J_get (v := .ref (a 0)) hC wu_X10 rfl dX10_coins_1 0 2 (by decide) wf_X10_22 rfl rfl ?_
  refine J_get (v := .int (S 16 1)) hC wu_X8 rfl dX10_coins_4 1 6 (by decide) wf_X10_120 rfl rfl ?_
  refine J_iret hC hR dX10_coins_7 rfl () ?_ ?_ (by decide) (by decide)
  · rfl
  · rfl

set_option maxRecDepth 100000 in
set_option maxHeartbeats 4000000 in
theorem c_X10_fairCount (l : Launch) (G : gT) (o : Nat) (R a : Nat → Nat) (S : CT) (ec : Int32) (ep : Int32) (hI : CI S) : MI l yX10_fairCount cX10_fairCount 1 (some .int) { frames := 0, cells := 0, slots := 0, locals := 0 } [.ref (o)] G (oW G o R a S ec ep) (fun r (_ : Unit) => r = S 16 10) (fun _ => oW G o R a S ec ep) := by
  refine jm_i (own := RX10) (by decide) rfl (Nat.le_of_ble_eq_true rfl) (fun x hl hC hR hN => ?_)
  subst hl
  refine J_aload_n hC dX10_fairCount_0 0 rfl rfl ?_
  refine J_get (v := .ref (a 0)) hC wu_X10 rfl dX10_fairCount_1 0 2 (by decide) wf_X10_22 rfl rfl ?_
  refine J_get (v := .ref (a 5)) hC wu_X8 rfl dX10_fairCount_4 1 1 (by decide) wf_X10_123 rfl rfl ?_
  refine J_get (v := .int (S 16 10)) hC wu_X2 rfl dX10_fairCount_7 6 5 (by decide) wf_X10_127 rfl rfl ?_
  refine J_iret hC hR dX10_fairCount_10 rfl () ?_ ?_ (by decide) (by decide)
  · rfl
  · rfl

set_option maxRecDepth 100000 in
set_option maxHeartbeats 4000000 in
theorem c_X10_forecastCount (l : Launch) (G : gT) (o : Nat) (R a : Nat → Nat) (S : CT) (ec : Int32) (ep : Int32) (hI : CI S) : MI l yX10_forecastCount cX10_forecastCount 1 (some .int) { frames := 0, cells := 0, slots := 0, locals := 0 } [.ref (o)] G (oW G o R a S ec ep) (fun r (_ : Unit) => r = S 16 12) (fun _ => oW G o R a S ec ep) := by
  refine jm_i (own := RX10) (by decide) rfl (Nat.le_of_ble_eq_true rfl) (fun x hl hC hR hN => ?_)
  subst hl
  refine J_aload_n hC dX10_forecastCount_0 0 rfl rfl ?_
  refine J_get (v := .ref (a 0)) hC wu_X10 rfl dX10_forecastCount_1 0 2 (by decide) wf_X10_22 rfl rfl ?_
  refine J_get (v := .ref (a 14)) hC wu_X8 rfl dX10_forecastCount_4 1 3 (by decide) wf_X10_149 rfl rfl ?_
  refine J_get (v := .int (S 16 12)) hC wu_X0 rfl dX10_forecastCount_7 15 5 (by decide) wf_X10_185 rfl rfl ?_
  refine J_iret hC hR dX10_forecastCount_10 rfl () ?_ ?_ (by decide) (by decide)
  · rfl
  · rfl

set_option maxRecDepth 100000 in
set_option maxHeartbeats 4000000 in
theorem c_X10_regretCount (l : Launch) (G : gT) (o : Nat) (R a : Nat → Nat) (S : CT) (ec : Int32) (ep : Int32) (hI : CI S) : MI l yX10_regretCount cX10_regretCount 1 (some .int) { frames := 0, cells := 0, slots := 0, locals := 0 } [.ref (o)] G (oW G o R a S ec ep) (fun r (_ : Unit) => r = S 16 13) (fun _ => oW G o R a S ec ep) := by
  refine jm_i (own := RX10) (by decide) rfl (Nat.le_of_ble_eq_true rfl) (fun x hl hC hR hN => ?_)
  subst hl
  refine J_aload_n hC dX10_regretCount_0 0 rfl rfl ?_
  refine J_get (v := .ref (a 0)) hC wu_X10 rfl dX10_regretCount_1 0 2 (by decide) wf_X10_22 rfl rfl ?_
  refine J_get (v := .ref (a 20)) hC wu_X8 rfl dX10_regretCount_4 1 4 (by decide) wf_X10_236 rfl rfl ?_
  refine J_get (v := .int (S 16 13)) hC wu_X4 rfl dX10_regretCount_7 21 1 (by decide) wf_X10_240 rfl rfl ?_
  refine J_iret hC hR dX10_regretCount_10 rfl () ?_ ?_ (by decide) (by decide)
  · rfl
  · rfl

set_option maxRecDepth 100000 in
set_option maxHeartbeats 4000000 in
theorem c_X10_hits (l : Launch) (G : gT) (o : Nat) (R a : Nat → Nat) (S : CT) (ec : Int32) (ep : Int32) (hI : CI S) : MI l yX10_hits cX10_hits 1 (some .int) { frames := 0, cells := 0, slots := 0, locals := 0 } [.ref (o)] G (oW G o R a S ec ep) (fun r (_ : Unit) => r = S 16 2) (fun _ => oW G o R a S ec ep) := by
  refine jm_i (own := RX10) (by decide) rfl (Nat.le_of_ble_eq_true rfl) (fun x hl hC hR hN => ?_)
  subst hl
  refine J_aload_n hC dX10_hits_0 0 rfl rfl ?_
  refine J_get (v := .ref (a 0)) hC wu_X10 rfl dX10_hits_1 0 2 (by decide) wf_X10_22 rfl rfl ?_
  refine J_get (v := .int (S 16 2)) hC wu_X8 rfl dX10_hits_4 1 7 (by decide) wf_X10_249 rfl rfl ?_
  refine J_iret hC hR dX10_hits_7 rfl () ?_ ?_ (by decide) (by decide)
  · rfl
  · rfl

set_option maxRecDepth 100000 in
set_option maxHeartbeats 4000000 in
theorem c_X10_regrets (l : Launch) (G : gT) (o : Nat) (R a : Nat → Nat) (S : CT) (ec : Int32) (ep : Int32) (hI : CI S) : MI l yX10_regrets cX10_regrets 1 (some .int) { frames := 0, cells := 0, slots := 0, locals := 0 } [.ref (o)] G (oW G o R a S ec ep) (fun r (_ : Unit) => r = S 16 3) (fun _ => oW G o R a S ec ep) := by
  refine jm_i (own := RX10) (by decide) rfl (Nat.le_of_ble_eq_true rfl) (fun x hl hC hR hN => ?_)
  subst hl
  refine J_aload_n hC dX10_regrets_0 0 rfl rfl ?_
  refine J_get (v := .ref (a 0)) hC wu_X10 rfl dX10_regrets_1 0 2 (by decide) wf_X10_22 rfl rfl ?_
  refine J_get (v := .int (S 16 3)) hC wu_X8 rfl dX10_regrets_4 1 8 (by decide) wf_X10_252 rfl rfl ?_
  refine J_iret hC hR dX10_regrets_7 rfl () ?_ ?_ (by decide) (by decide)
  · rfl
  · rfl

set_option maxRecDepth 100000 in
set_option maxHeartbeats 4000000 in
theorem c_X10_retractions (l : Launch) (G : gT) (o : Nat) (R a : Nat → Nat) (S : CT) (ec : Int32) (ep : Int32) (hI : CI S) : MI l yX10_retractions cX10_retractions 1 (some .int) { frames := 0, cells := 0, slots := 0, locals := 0 } [.ref (o)] G (oW G o R a S ec ep) (fun r (_ : Unit) => r = S 16 4) (fun _ => oW G o R a S ec ep) := by
  refine jm_i (own := RX10) (by decide) rfl (Nat.le_of_ble_eq_true rfl) (fun x hl hC hR hN => ?_)
  subst hl
  refine J_aload_n hC dX10_retractions_0 0 rfl rfl ?_
  refine J_get (v := .ref (a 0)) hC wu_X10 rfl dX10_retractions_1 0 2 (by decide) wf_X10_22 rfl rfl ?_
  refine J_get (v := .int (S 16 4)) hC wu_X8 rfl dX10_retractions_4 1 9 (by decide) wf_X10_255 rfl rfl ?_
  refine J_iret hC hR dX10_retractions_7 rfl () ?_ ?_ (by decide) (by decide)
  · rfl
  · rfl

set_option maxRecDepth 100000 in
set_option maxHeartbeats 4000000 in
theorem c_X10_pageCount (l : Launch) (G : gT) (o : Nat) (R a : Nat → Nat) (S : CT) (ec : Int32) (ep : Int32) (hI : CI S) : MI l yX10_pageCount cX10_pageCount 1 (some .int) { frames := 1, cells := 0, slots := 0, locals := 20 } [.ref (o)] G (oW G o R a S ec ep) (fun r (_ : Unit) => r = nI ((bcO S + 4 - 1) / 4)) (fun _ => oW G o R a S ec ep) := by
  refine jm_i (own := RX10) (by decide) rfl (Nat.le_of_ble_eq_true rfl) (fun x hl hC hR hN => ?_)
  subst hl
  refine J_aload_n hC dX10_pageCount_0 0 rfl rfl ?_
  refine J_get (v := .ref (a 0)) hC wu_X10 rfl dX10_pageCount_1 0 2 (by decide) wf_X10_22 rfl rfl ?_
  refine J_get (v := .ref (a 14)) hC wu_X8 rfl dX10_pageCount_4 1 3 (by decide) wf_X10_149 rfl rfl ?_
  refine J_callVi hC dX10_pageCount_7 wl_X10_211 yi_X0_pages (cons_i (c_X0_pages _ G a S (bcO S) hI.1.1 (by have := hI.1.2; omega))) rfl rfl 15 0 rfl rfl ⟨Nat.le_of_ble_eq_true rfl, Nat.le_of_ble_eq_true rfl⟩ (Nat.le_of_ble_eq_true rfl) (Nat.le_of_ble_eq_true rfl) (Nat.le_of_ble_eq_true rfl) (fun r u h_7 => ?_)
  refine J_wq (show _ = oW G o R a S ec ep from rfl) ?_
  subst h_7
  refine J_iret hC hR dX10_pageCount_10 rfl () ?_ ?_ (by decide) (by decide)
  · rfl
  · rfl

set_option maxRecDepth 100000 in
set_option maxHeartbeats 4000000 in
theorem c_X10_copyDifference (l : Launch) (G : gT) (o : Nat) (R a : Nat → Nat) (S : CT) (ec : Int32) (ep : Int32) (hI : CI S) : MI l yX10_copyDifference cX10_copyDifference 1 (some .int) { frames := 1, cells := 0, slots := 0, locals := 22 } [.ref (o)] G (oW G o R a S ec ep) (fun r (_ : Unit) => r = S 16 5 - s_copies S (bcO S) - S 16 6) (fun _ => oW G o R a S ec ep) := by
  refine jm_i (own := RX10) (by decide) rfl (Nat.le_of_ble_eq_true rfl) (fun x hl hC hR hN => ?_)
  subst hl
  refine J_aload_n hC dX10_copyDifference_0 0 rfl rfl ?_
  refine J_get (v := .ref (a 0)) hC wu_X10 rfl dX10_copyDifference_1 0 2 (by decide) wf_X10_22 rfl rfl ?_
  refine J_get (v := .int (S 16 5)) hC wu_X8 rfl dX10_copyDifference_4 1 10 (by decide) wf_X10_267 rfl rfl ?_
  refine J_aload_n hC dX10_copyDifference_7 0 rfl rfl ?_
  refine J_get (v := .ref (a 0)) hC wu_X10 rfl dX10_copyDifference_8 0 2 (by decide) wf_X10_22 rfl rfl ?_
  refine J_get (v := .ref (a 14)) hC wu_X8 rfl dX10_copyDifference_11 1 3 (by decide) wf_X10_149 rfl rfl ?_
  refine J_callVi hC dX10_copyDifference_14 wl_X10_270 yi_X0_copies (cons_i (c_X0_copies _ G a S (bcO S) hI.1.1 (by have := hI.1.2; omega))) rfl rfl 15 0 rfl rfl ⟨Nat.le_of_ble_eq_true rfl, Nat.le_of_ble_eq_true rfl⟩ (Nat.le_of_ble_eq_true rfl) (Nat.le_of_ble_eq_true rfl) (Nat.le_of_ble_eq_true rfl) (fun r u h_14 => ?_)
  refine J_wq (show _ = oW G o R a S ec ep from rfl) ?_
  subst h_14
  refine J_isub (v := (S 16 5) - (s_copies S (bcO S))) hC dX10_copyDifference_17 rfl ?_
  refine J_aload_n hC dX10_copyDifference_18 0 rfl rfl ?_
  refine J_get (v := .ref (a 0)) hC wu_X10 rfl dX10_copyDifference_19 0 2 (by decide) wf_X10_22 rfl rfl ?_
  refine J_get (v := .int (S 16 6)) hC wu_X8 rfl dX10_copyDifference_22 1 11 (by decide) wf_X10_273 rfl rfl ?_
  refine J_isub (v := ((S 16 5) - (s_copies S (bcO S))) - (S 16 6)) hC dX10_copyDifference_25 rfl ?_
  refine J_iret hC hR dX10_copyDifference_26 rfl () ?_ ?_ (by decide) (by decide)
  · rfl
  · rfl

set_option maxRecDepth 100000 in
set_option maxHeartbeats 4000000 in
theorem c_X10_coinDifference (l : Launch) (G : gT) (o : Nat) (R a : Nat → Nat) (S : CT) (ec : Int32) (ep : Int32) (hI : CI S) : MI l yX10_coinDifference cX10_coinDifference 1 (some .int) { frames := 0, cells := 0, slots := 0, locals := 0 } [.ref (o)] G (oW G o R a S ec ep) (fun r (_ : Unit) => r = S 16 7 - S 16 8 - S 16 1) (fun _ => oW G o R a S ec ep) := by
  refine jm_i (own := RX10) (by decide) rfl (Nat.le_of_ble_eq_true rfl) (fun x hl hC hR hN => ?_)
  subst hl
  refine J_aload_n hC dX10_coinDifference_0 0 rfl rfl ?_
  refine J_get (v := .ref (a 0)) hC wu_X10 rfl dX10_coinDifference_1 0 2 (by decide) wf_X10_22 rfl rfl ?_
  refine J_get (v := .int (S 16 7)) hC wu_X8 rfl dX10_coinDifference_4 1 12 (by decide) wf_X10_276 rfl rfl ?_
  refine J_aload_n hC dX10_coinDifference_7 0 rfl rfl ?_
  refine J_get (v := .ref (a 0)) hC wu_X10 rfl dX10_coinDifference_8 0 2 (by decide) wf_X10_22 rfl rfl ?_
  refine J_get (v := .int (S 16 8)) hC wu_X8 rfl dX10_coinDifference_11 1 13 (by decide) wf_X10_279 rfl rfl ?_
  refine J_isub (v := (S 16 7) - (S 16 8)) hC dX10_coinDifference_14 rfl ?_
  refine J_aload_n hC dX10_coinDifference_15 0 rfl rfl ?_
  refine J_get (v := .ref (a 0)) hC wu_X10 rfl dX10_coinDifference_16 0 2 (by decide) wf_X10_22 rfl rfl ?_
  refine J_get (v := .int (S 16 1)) hC wu_X8 rfl dX10_coinDifference_19 1 6 (by decide) wf_X10_120 rfl rfl ?_
  refine J_isub (v := ((S 16 7) - (S 16 8)) - (S 16 1)) hC dX10_coinDifference_22 rfl ?_
  refine J_iret hC hR dX10_coinDifference_23 rfl () ?_ ?_ (by decide) (by decide)
  · rfl
  · rfl

set_option maxRecDepth 100000 in
set_option maxHeartbeats 4000000 in
theorem c_X10_bookErrors (l : Launch) (G : gT) (o : Nat) (R a : Nat → Nat) (S : CT) (ec : Int32) (ep : Int32) (hI : CI S) : MI l yX10_bookErrors cX10_bookErrors 1 (some .int) { frames := 2, cells := 0, slots := 0, locals := 45 } [.ref (o)] G (oW G o R a S ec ep) (fun r (_ : Unit) => r = s_errors S (bcO S)) (fun _ => oW G o R a S ec ep) := by
  refine jm_i (own := RX10) (by decide) rfl (Nat.le_of_ble_eq_true rfl) (fun x hl hC hR hN => ?_)
  subst hl
  refine J_aload_n hC dX10_bookErrors_0 0 rfl rfl ?_
  refine J_get (v := .ref (a 0)) hC wu_X10 rfl dX10_bookErrors_1 0 2 (by decide) wf_X10_22 rfl rfl ?_
  refine J_get (v := .ref (a 14)) hC wu_X8 rfl dX10_bookErrors_4 1 3 (by decide) wf_X10_149 rfl rfl ?_
  refine J_callVi hC dX10_bookErrors_7 wl_X10_282 yi_X0_errors (cons_i (c_X0_errors _ G a S (bcO S) hI.1.1 (by have := hI.1.2; omega))) rfl rfl 15 0 rfl rfl ⟨Nat.le_of_ble_eq_true rfl, Nat.le_of_ble_eq_true rfl⟩ (Nat.le_of_ble_eq_true rfl) (Nat.le_of_ble_eq_true rfl) (Nat.le_of_ble_eq_true rfl) (fun r u h_7 => ?_)
  refine J_wq (show _ = oW G o R a S ec ep from rfl) ?_
  subst h_7
  refine J_iret hC hR dX10_bookErrors_10 rfl () ?_ ?_ (by decide) (by decide)
  · rfl
  · rfl

theorem s_bestAt_lt (S : CT) {bc : Nat} (h : 0 < bc) : s_bestAt S bc < bc := by
  have go : ∀ n i b, b < bc → i + n ≤ bc → fo (fun i b => if S 13 i ≤ S 13 b then b else i) i n b < bc := by
    intro n
    induction n with
    | zero => intro i b hb _; exact hb
    | succ n ih =>
      intro i b hb hi
      rw [fo]
      apply ih
      · split
        · exact hb
        · omega
      · omega
  exact go (bc - 1) 1 0 h (by omega)


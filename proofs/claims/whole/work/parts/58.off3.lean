set_option maxRecDepth 100000 in
set_option maxHeartbeats 4000000 in
theorem c_X10_pageOf (l : Launch) (G : gT) (o : Nat) (R a : Nat → Nat) (S : CT) (ec ep : Int32) (v d : Int32) (hI : CI S) (hst : l.stackTraces = false) : TI l yX10_pageOf cX10_pageOf 3 (some .int) { frames := 8, cells := 2, slots := 12, locals := 134 } [.ref o, .int v, .int d] G (oW G o R a S ec ep) (fun r (w : Nat) => (¬ v < 0 ∧ v < nI (vcO S)) ∧ w < bcO S ∧ s_placeOf S v d (bcO S) = nI w ∧ r = nI w / 4) (fun _ => oW G o R a S ec ep) (fun (u : Nat) => (u = 0 ∧ ¬ (¬ v < 0 ∧ v < nI (vcO S))) ∨ (u = 1 ∧ (¬ v < 0 ∧ v < nI (vcO S)) ∧ s_placeOf S v d (bcO S) = -1)) (fun u => if u = 0 then eIOOB else eNSE) (fun _ => oW G o R a S ec ep) := by
  refine jt_i (own := RX10) hst (by decide) rfl (Nat.le_of_ble_eq_true rfl) (fun x hl hC hR hN => ?_)
  subst hl
  refine J_aload_n hC dX10_pageOf_0 0 rfl rfl ?_
  refine J_iload_n hC dX10_pageOf_1 1 rfl rfl ?_
  refine J_iload_n hC dX10_pageOf_2 2 rfl rfl ?_
  refine J_callTi hC hR.2 dX10_pageOf_3 wl_X10_192 yi_X10_requireForecast (c_X10_requireForecast _ G o R a S ec ep v d hI hst) rfl rfl 0 10 rfl rfl ⟨Nat.le_of_ble_eq_true rfl, Nat.le_of_ble_eq_true rfl⟩ (Nat.le_of_ble_eq_true rfl) (Nat.le_of_ble_eq_true rfl) (Nat.le_of_ble_eq_true rfl) (Nat.le_of_ble_eq_true rfl) (Nat.le_of_ble_eq_true rfl) (fun u h => ⟨u, h, rfl, rfl⟩) (fun r w h => ?_)
  refine J_wq (show _ = oW G o R a S ec ep from rfl) ?_
  obtain ⟨h1, h2, h3, h4⟩ := h
  subst h3
  refine J_iconst (v := 4) hC dX10_pageOf_6 rfl ?_
  refine J_idiv (v := nI w / 4) hC dX10_pageOf_7 (by decide) rfl ?_
  exact J_iretT hC hR dX10_pageOf_8 rfl w ⟨h1, h2, h4, rfl⟩ rfl (Nat.le_of_ble_eq_true rfl) (Nat.le_of_ble_eq_true rfl)

theorem io_le {i w : Nat} (h : i ≤ w) : w + 1 - i = (w + 1 - (i + 1)) + 1 := by omega
def s_seeds (n : Nat) (sd : Int32) : Int32 := fo (fun _ z => s_seed z) 0 n sd

set_option maxRecDepth 100000 in
set_option maxHeartbeats 4000000 in
theorem c_X10_tomorrowIn (l : Launch) (G : gT) (o : Nat) (R a : Nat → Nat) (S : CT) (ec ep : Int32) (v : Int32) (hI : CI S) (hst : l.stackTraces = false) : TI l yX10_tomorrowIn cX10_tomorrowIn 4 (some .int) { frames := 7, cells := 1, slots := 6, locals := 104 } [.ref o, .int v] G (oW G o R a S ec ep) (fun r (w : Nat) => w < vcO S ∧ v = nI w ∧ r = nI (s_wf S (s_seeds (w + 1) (S 16 11)))) (fun _ => oW G o R a S ec ep) (fun (_ : Unit) => ¬ (¬ v < 0 ∧ v < nI (vcO S))) (fun _ => eIOOB) (fun _ => oW G o R a S ec ep) := by
  refine jt_i (own := RX10) hst (by decide) rfl (Nat.le_of_ble_eq_true rfl) (fun x hl hC hR hN => ?_)
  subst hl
  refine J_aload_n hC dX10_tomorrowIn_0 0 rfl rfl ?_
  refine J_iload_n hC dX10_tomorrowIn_1 1 rfl rfl ?_
  refine J_callTv hC hR.2 dX10_tomorrowIn_2 wl_X10_139 yi_X10_requireVillage (c_X10_requireVillage _ G o R a S ec ep v hI hst) rfl rfl 0 10 rfl rfl ⟨Nat.le_of_ble_eq_true rfl, Nat.le_of_ble_eq_true rfl⟩ (Nat.le_of_ble_eq_true rfl) (Nat.le_of_ble_eq_true rfl) (Nat.le_of_ble_eq_true rfl) (Nat.le_of_ble_eq_true rfl) (Nat.le_of_ble_eq_true rfl) (fun _ h => ⟨(), h, rfl, rfl⟩) (fun u h => ?_)
  refine J_wq (show _ = oW G o R a S ec ep from rfl) ?_
  have hsz := hI.2.1.2
  obtain ⟨w, hw, hv⟩ := has_nat h (by omega)
  subst hv
  refine J_aload_n hC dX10_tomorrowIn_5 0 rfl rfl ?_
  refine J_get (v := .ref (a 0)) hC wu_X10 rfl dX10_tomorrowIn_6 0 2 (by decide) wf_X10_22 rfl rfl ?_
  refine J_get (v := .ref (a 11)) hC wu_X8 rfl dX10_tomorrowIn_9 1 2 (by decide) wf_X10_111 rfl rfl ?_
  refine J_get (v := .int (S 16 11)) hC wu_X7 rfl dX10_tomorrowIn_12 12 2 (by decide) wf_X10_115 rfl rfl ?_
  refine J_istore_n hC [(2, .int (S 16 11)), (0, .ref o), (1, .int (nI w))] dX10_tomorrowIn_15 rfl (by decide) rfl ?_
  refine J_iconst (v := nI 0) hC dX10_tomorrowIn_16 rfl ?_
  refine J_istore_n hC [(3, .int (nI 0)), (2, .int (S 16 11)), (0, .ref o), (1, .int (nI w))] dX10_tomorrowIn_17 rfl (by decide) rfl ?_
  suffices hlp : ∀ (m i : Nat) (sd : Int32), i + m = w + 1 → fo (fun _ z => s_seed z) i m sd = s_seeds (w + 1) (S 16 11) → J x G (oW G o R a S ec ep) 1 6 [(3, .int (nI i)), (2, .int sd), (0, .ref o), (1, .int (nI w))] [] 18 from hlp (w + 1) 0 _ (by omega) rfl
  intro m
  induction m with
  | zero =>
    intro i sd him hfo
    refine J_iload_n hC dX10_tomorrowIn_18 0 rfl rfl ?_
    refine J_iload_n hC dX10_tomorrowIn_19 3 rfl rfl ?_
    refine J_ic_gtN (tgt := 34) hC dX10_tomorrowIn_20 (by decide) (by omega) (by omega) (fun c => ?_) (fun c => absurd c (by omega))
    have e9 : sd = s_seeds (w + 1) (S 16 11) := hfo
    subst e9
    refine J_aload_n hC dX10_tomorrowIn_34 2 rfl rfl ?_
    refine J_get (v := .ref (a 0)) hC wu_X10 rfl dX10_tomorrowIn_35 0 2 (by decide) wf_X10_22 rfl rfl ?_
    refine J_get (v := .ref (a 11)) hC wu_X8 rfl dX10_tomorrowIn_38 1 2 (by decide) wf_X10_111 rfl rfl ?_
    refine J_iload_n hC dX10_tomorrowIn_41 1 rfl rfl ?_
    refine J_callVi hC dX10_tomorrowIn_42 wl_X10_233 yi_X7_weatherFor (cons_i (c_X7_weatherFor _ G a S (s_seeds (w + 1) (S 16 11)))) rfl rfl 12 7 rfl rfl ⟨Nat.le_of_ble_eq_true rfl, Nat.le_of_ble_eq_true rfl⟩ (Nat.le_of_ble_eq_true rfl) (Nat.le_of_ble_eq_true rfl) (Nat.le_of_ble_eq_true rfl) (fun r u9 h9 => ?_)
    refine J_wq (show _ = oW G o R a S ec ep from rfl) ?_
    exact J_iretT hC hR dX10_tomorrowIn_45 rfl w ⟨hw, rfl, h9⟩ rfl (Nat.le_of_ble_eq_true rfl) (Nat.le_of_ble_eq_true rfl)
  | succ m ih =>
    intro i sd him hfo
    refine J_iload_n hC dX10_tomorrowIn_18 0 rfl rfl ?_
    refine J_iload_n hC dX10_tomorrowIn_19 3 rfl rfl ?_
    refine J_ic_gtN (tgt := 34) hC dX10_tomorrowIn_20 (by decide) (by omega) (by omega) (fun c => absurd c (by omega)) (fun c => ?_)
    refine J_iload_n hC dX10_tomorrowIn_23 1 rfl rfl ?_
    refine J_callSi hC dX10_tomorrowIn_24 wl_X10_230 wi_X10 yi_X7_seedAfter (c_X7_seedAfter _ G (oW G o R a S ec ep) sd) rfl rfl ⟨Nat.le_of_ble_eq_true rfl, Nat.le_of_ble_eq_true rfl⟩ (Nat.le_of_ble_eq_true rfl) (Nat.le_of_ble_eq_true rfl) (Nat.le_of_ble_eq_true rfl) (fun r u9 h9 => ?_)
    refine J_wq (show _ = oW G o R a S ec ep from rfl) ?_
    subst h9
    refine J_istore_n hC [(2, .int (s_seed sd)), (3, .int (nI i)), (0, .ref o), (1, .int (nI w))] dX10_tomorrowIn_27 rfl (by decide) rfl ?_
    refine J_iinc hC [(3, .int (nI (i + 1))), (2, .int (s_seed sd)), (0, .ref o), (1, .int (nI w))] dX10_tomorrowIn_28 1 rfl (nI_inc i) (by decide) rfl ?_
    refine J_goto (tgt := 18) hC dX10_tomorrowIn_31 (by decide) ?_
    exact ih (i + 1) _ (by omega) hfo

theorem rng_nat {v : Int32} {n : Nat} (h : ¬ v < 0 ∧ ¬ nI n < v) (hn : n < 1000000) : ∃ w, w ≤ n ∧ v = nI w := by
  obtain ⟨w, hw, hv⟩ := has_nat (n := n + 1) ⟨h.1, by
    have h2 := h.2
    rw [Int32.lt_iff_toInt_lt] at h2 ⊢
    rw [nI_toInt (by omega)] at h2 ⊢
    omega⟩ (by omega)
  exact ⟨w, by omega, hv⟩

set_option maxRecDepth 100000 in
set_option maxHeartbeats 4000000 in
theorem c_X10_coinsAfter (l : Launch) (G : gT) (o : Nat) (R a : Nat → Nat) (S : CT) (ec ep : Int32) (v : Int32) (d : Nat → Nat) (D : CT) (hd : R 2 = d 0) (hI : CI S) (hst : l.stackTraces = false) : TI l yX10_coinsAfter cX10_coinsAfter 2 (some .int) { frames := 7, cells := 1, slots := 6, locals := 124 } [.ref o, .int v] G (oW G o R a S ec ep ++ stW G d D) (fun r (w : Nat) => w ≤ 200 ∧ v = nI w ∧ r = s_days w S 16 1) (fun w => oW G o R a S ec ep ++ stW G d (s_days w S)) (fun (_ : Unit) => ¬ (¬ v < 0 ∧ ¬ nI 200 < v)) (fun _ => eIAE) (fun _ => oW G o R a S ec ep ++ stW G d D) := by
  refine jt_i (own := RX10) hst (by decide) rfl (Nat.le_of_ble_eq_true rfl) (fun x hl hC hR hN => ?_)
  subst hl
  refine J_aload_n hC dX10_coinsAfter_0 0 rfl rfl ?_
  refine J_iload_n hC dX10_coinsAfter_1 1 rfl rfl ?_
  refine J_iconst (v := 0) hC dX10_coinsAfter_2 rfl ?_
  refine J_sipush (v := nI 200) hC dX10_coinsAfter_3 rfl ?_
  refine J_callTv hC hR.2 dX10_coinsAfter_6 wl_X10_84 yi_X10_requireRange (frt_v (wr := stW G d D) (c_X10_requireRange _ G o R a S ec ep v 0 (nI 200) hst) (List.Perm.refl _) (fun _ => List.Perm.refl _) (fun _ => List.Perm.refl _)) rfl rfl 0 10 rfl rfl ⟨Nat.le_of_ble_eq_true rfl, Nat.le_of_ble_eq_true rfl⟩ (Nat.le_of_ble_eq_true rfl) (Nat.le_of_ble_eq_true rfl) (Nat.le_of_ble_eq_true rfl) (Nat.le_of_ble_eq_true rfl) (Nat.le_of_ble_eq_true rfl) (fun _ h => ⟨(), h, rfl, rfl⟩) (fun u h => ?_)
  refine J_wq (show _ = oW G o R a S ec ep ++ stW G d D from rfl) ?_
  obtain ⟨w, hw, hv⟩ := rng_nat h (by decide)
  subst hv
  refine J_aload_n hC dX10_coinsAfter_9 0 rfl rfl ?_
  refine J_iload_n hC dX10_coinsAfter_10 1 rfl rfl ?_
  refine J_callVv hC dX10_coinsAfter_11 wl_X10_258 yi_X10_lookAhead (c_X10_lookAhead _ G o R a d S D ec ep w hI hd (by omega)) rfl rfl 0 10 rfl rfl ⟨Nat.le_of_ble_eq_true rfl, Nat.le_of_ble_eq_true rfl⟩ (Nat.le_of_ble_eq_true rfl) (Nat.le_of_ble_eq_true rfl) (Nat.le_of_ble_eq_true rfl) (fun u9 h9 => ?_)
  refine J_wq (show _ = oW G o R a S ec ep ++ stW G d (s_days w S) from rfl) ?_
  refine J_aload_n hC dX10_coinsAfter_14 0 rfl rfl ?_
  refine J_get (v := .ref (d 0)) hC wu_X10 rfl dX10_coinsAfter_15 0 3 (by decide) wf_X10_26 rfl (by rw [← hd]; rfl) ?_
  refine J_get (v := .int (s_days w S 16 1)) hC wu_X8 rfl dX10_coinsAfter_18 23 6 (by decide) wf_X10_120 rfl rfl ?_
  exact J_iretT hC hR dX10_coinsAfter_21 rfl w ⟨hw, rfl, rfl⟩ rfl (Nat.le_of_ble_eq_true rfl) (Nat.le_of_ble_eq_true rfl)

set_option maxRecDepth 100000 in
set_option maxHeartbeats 4000000 in
theorem c_X10_trustAfter (l : Launch) (G : gT) (o : Nat) (R a : Nat → Nat) (S : CT) (ec ep : Int32) (v n : Int32) (d : Nat → Nat) (D : CT) (hd : R 2 = d 0) (hI : CI S) (hst : l.stackTraces = false) : TI l yX10_trustAfter cX10_trustAfter 3 (some .int) { frames := 7, cells := 2, slots := 12, locals := 124 } [.ref o, .int v, .int n] G (oW G o R a S ec ep ++ stW G d D) (fun r (u : Nat × Nat) => (u.1 < vcO S ∧ v = nI u.1) ∧ (u.2 ≤ 200 ∧ n = nI u.2) ∧ r = s_days u.2 S 2 u.1) (fun u => oW G o R a S ec ep ++ stW G d (s_days u.2 S)) (fun (u : Nat) => (u = 0 ∧ ¬ (¬ v < 0 ∧ v < nI (vcO S))) ∨ (u = 1 ∧ (¬ v < 0 ∧ v < nI (vcO S)) ∧ ¬ (¬ n < 0 ∧ ¬ nI 200 < n))) (fun u => if u = 0 then eIOOB else eIAE) (fun _ => oW G o R a S ec ep ++ stW G d D) := by
  refine jt_i (own := RX10) hst (by decide) rfl (Nat.le_of_ble_eq_true rfl) (fun x hl hC hR hN => ?_)
  subst hl
  refine J_aload_n hC dX10_trustAfter_0 0 rfl rfl ?_
  refine J_iload_n hC dX10_trustAfter_1 1 rfl rfl ?_
  refine J_callTv hC hR.2 dX10_trustAfter_2 wl_X10_139 yi_X10_requireVillage (frt_v (wr := stW G d D) (c_X10_requireVillage _ G o R a S ec ep v hI hst) (List.Perm.refl _) (fun _ => List.Perm.refl _) (fun _ => List.Perm.refl _)) rfl rfl 0 10 rfl rfl ⟨Nat.le_of_ble_eq_true rfl, Nat.le_of_ble_eq_true rfl⟩ (Nat.le_of_ble_eq_true rfl) (Nat.le_of_ble_eq_true rfl) (Nat.le_of_ble_eq_true rfl) (Nat.le_of_ble_eq_true rfl) (Nat.le_of_ble_eq_true rfl) (fun _ h => ⟨0, Or.inl ⟨rfl, h⟩, rfl, rfl⟩) (fun u hv0 => ?_)
  refine J_wq (show _ = oW G o R a S ec ep ++ stW G d D from rfl) ?_
  refine J_aload_n hC dX10_trustAfter_5 0 rfl rfl ?_
  refine J_iload_n hC dX10_trustAfter_6 2 rfl rfl ?_
  refine J_iconst (v := 0) hC dX10_trustAfter_7 rfl ?_
  refine J_sipush (v := nI 200) hC dX10_trustAfter_8 rfl ?_
  refine J_callTv hC hR.2 dX10_trustAfter_11 wl_X10_84 yi_X10_requireRange (frt_v (wr := stW G d D) (c_X10_requireRange _ G o R a S ec ep n 0 (nI 200) hst) (List.Perm.refl _) (fun _ => List.Perm.refl _) (fun _ => List.Perm.refl _)) rfl rfl 0 10 rfl rfl ⟨Nat.le_of_ble_eq_true rfl, Nat.le_of_ble_eq_true rfl⟩ (Nat.le_of_ble_eq_true rfl) (Nat.le_of_ble_eq_true rfl) (Nat.le_of_ble_eq_true rfl) (Nat.le_of_ble_eq_true rfl) (Nat.le_of_ble_eq_true rfl) (fun _ h => ⟨1, Or.inr ⟨rfl, hv0, h⟩, rfl, rfl⟩) (fun u h => ?_)
  refine J_wq (show _ = oW G o R a S ec ep ++ stW G d D from rfl) ?_
  have hsz := hI.2.1.2
  obtain ⟨w, hw, hv⟩ := rng_nat h (by decide)
  subst hv
  obtain ⟨q, hq, hv⟩ := has_nat hv0 (by omega)
  subst hv
  refine J_aload_n hC dX10_trustAfter_14 0 rfl rfl ?_
  refine J_iload_n hC dX10_trustAfter_15 2 rfl rfl ?_
  refine J_callVv hC dX10_trustAfter_16 wl_X10_258 yi_X10_lookAhead (c_X10_lookAhead _ G o R a d S D ec ep w hI hd (by omega)) rfl rfl 0 10 rfl rfl ⟨Nat.le_of_ble_eq_true rfl, Nat.le_of_ble_eq_true rfl⟩ (Nat.le_of_ble_eq_true rfl) (Nat.le_of_ble_eq_true rfl) (Nat.le_of_ble_eq_true rfl) (fun u9 h9 => ?_)
  refine J_wq (show _ = oW G o R a S ec ep ++ stW G d (s_days w S) from rfl) ?_
  refine J_aload_n hC dX10_trustAfter_19 0 rfl rfl ?_
  refine J_get (v := .ref (d 0)) hC wu_X10 rfl dX10_trustAfter_20 0 3 (by decide) wf_X10_26 rfl (by rw [← hd]; rfl) ?_
  refine J_get (v := .ref (d 1)) hC wu_X8 rfl dX10_trustAfter_23 23 0 (by decide) wf_X10_99 rfl rfl ?_
  refine J_get (v := .ref (d 4)) hC wu_X9 rfl dX10_trustAfter_26 24 2 (by decide) wf_X10_146 rfl rfl ?_
  refine J_iload_n hC dX10_trustAfter_29 1 rfl rfl ?_
  refine J_iald (v := s_days w S 2 q) hC dX10_trustAfter_30 27 rfl (show q < 6 by omega) (by decide) rfl ?_
  exact J_iretT hC hR dX10_trustAfter_31 rfl (q, w) ⟨⟨hq, rfl⟩, ⟨hw, rfl⟩, rfl⟩ rfl (Nat.le_of_ble_eq_true rfl) (Nat.le_of_ble_eq_true rfl)

theorem nI_sub6 {L : Nat} (h : L ≤ 3072) : (nI L - nI 6).toInt = (L : Int) - 6 := by
  rw [Int32.toInt_sub, nI_toInt (by omega), nI_toInt (by omega)]
  exact Int.bmod_eq_of_le (by omega) (by omega)
theorem REL.idle {n : Nat} {z : OS} {M : CT} (h : REL n z M) : REL (n + 1) z M := h.next rfl rfl rfl rfl rfl rfl (fun _ _ => rfl)
set_option maxHeartbeats 4000000 in
theorem law_tab {x : JX} {G : gT} {w0 : Cond} {b L : Nat} {xs : Nat → Int32} (hX : LX x G w0 b L xs) {ol od : Nat} {u : Nat → Nat → Nat} {m : Nat → Nat} {z : OS} {M : CT} {f : Nat → Int64} {g : Nat → UInt64} {c k n : Nat} (hp : 6 * c + 6 ≤ L) (h : REL c z M) (hk : k ≤ 600000) (hn : n ≤ 7200000) (kk : LK x G b ol od u m c k n) (hz : J x G (LW G ol od u m z M f g) k n (lvL b u m ol od c) [] 2975) : ∀ w, w < 64 → J x G (LW G ol od u m z M f g) k n (lvL b u m ol od c) [.int (nI w)] 45 := by
  intro w hw
  have hC := hX.1
  match w, hw with
  | 0, _ => exact J_tabIn hC dL_law_45 (off := 255) (tgt := 300) (by decide +kernel) (by decide +kernel) (by decide +kernel) (by decide) (k_appendInput hX hp h hk hn kk)
  | 1, _ => exact J_tabIn hC dL_law_45 (off := 359) (tgt := 404) (by decide +kernel) (by decide +kernel) (by decide +kernel) (by decide) (k_truncateInput hX hp h hk hn kk)
  | 2, _ => exact J_tabIn hC dL_law_45 (off := 415) (tgt := 460) (by decide +kernel) (by decide +kernel) (by decide +kernel) (by decide) (k_load hX hp h hk hn kk)
  | 3, _ => exact J_tabIn hC dL_law_45 (off := 459) (tgt := 504) (by decide +kernel) (by decide +kernel) (by decide +kernel) (by decide) (k_errorCode hX hp h hk hn kk)
  | 4, _ => exact J_tabIn hC dL_law_45 (off := 472) (tgt := 517) (by decide +kernel) (by decide +kernel) (by decide +kernel) (by decide) (k_errorPosition hX hp h hk hn kk)
  | 5, _ => exact J_tabIn hC dL_law_45 (off := 485) (tgt := 530) (by decide +kernel) (by decide +kernel) (by decide +kernel) (by decide) (k_day hX hp h hk hn kk)
  | 6, _ => exact J_tabIn hC dL_law_45 (off := 498) (tgt := 543) (by decide +kernel) (by decide +kernel) (by decide +kernel) (by decide) (k_seed hX hp h hk hn kk)
  | 7, _ => exact J_tabIn hC dL_law_45 (off := 511) (tgt := 556) (by decide +kernel) (by decide +kernel) (by decide +kernel) (by decide) (k_coins hX hp h hk hn kk)
  | 8, _ => exact J_tabIn hC dL_law_45 (off := 524) (tgt := 569) (by decide +kernel) (by decide +kernel) (by decide +kernel) (by decide) (k_villageCount hX hp h hk hn kk)
  | 9, _ => exact J_tabIn hC dL_law_45 (off := 537) (tgt := 582) (by decide +kernel) (by decide +kernel) (by decide +kernel) (by decide) (k_fairCount hX hp h hk hn kk)
  | 10, _ => exact J_tabIn hC dL_law_45 (off := 550) (tgt := 595) (by decide +kernel) (by decide +kernel) (by decide +kernel) (by decide) (k_findName hX hp h hk hn kk)
  | 11, _ => exact J_tabIn hC dL_law_45 (off := 563) (tgt := 608) (by decide +kernel) (by decide +kernel) (by decide +kernel) (by decide) (k_peopleOf hX hp h hk hn kk)
  | 12, _ => exact J_tabIn hC dL_law_45 (off := 619) (tgt := 664) (by decide +kernel) (by decide +kernel) (by decide +kernel) (by decide) (k_trustOf hX hp h hk hn kk)
  | 13, _ => exact J_tabIn hC dL_law_45 (off := 675) (tgt := 720) (by decide +kernel) (by decide +kernel) (by decide +kernel) (by decide) (k_forecastsFor hX hp h hk hn kk)
  | 14, _ => exact J_tabIn hC dL_law_45 (off := 731) (tgt := 776) (by decide +kernel) (by decide +kernel) (by decide +kernel) (by decide) (k_fairVillage hX hp h hk hn kk)
  | 15, _ => exact J_tabIn hC dL_law_45 (off := 787) (tgt := 832) (by decide +kernel) (by decide +kernel) (by decide +kernel) (by decide) (k_periodOf hX hp h hk hn kk)
  | 16, _ => exact J_tabIn hC dL_law_45 (off := 843) (tgt := 888) (by decide +kernel) (by decide +kernel) (by decide +kernel) (by decide) (k_stockOf hX hp h hk hn kk)
  | 17, _ => exact J_tabIn hC dL_law_45 (off := 899) (tgt := 944) (by decide +kernel) (by decide +kernel) (by decide +kernel) (by decide) (k_priceOf hX hp h hk hn kk)
  | 18, _ => exact J_tabIn hC dL_law_45 (off := 955) (tgt := 1000) (by decide +kernel) (by decide +kernel) (by decide +kernel) (by decide) (k_daysUntilFair hX hp h hk hn kk)
  | 19, _ => exact J_tabIn hC dL_law_45 (off := 1011) (tgt := 1056) (by decide +kernel) (by decide +kernel) (by decide +kernel) (by decide) (k_oddsOf hX hp h hk hn kk)
  | 20, _ => exact J_tabIn hC dL_law_45 (off := 1067) (tgt := 1112) (by decide +kernel) (by decide +kernel) (by decide +kernel) (by decide) (k_chanceOf hX hp h hk hn kk)
  | 21, _ => exact J_tabIn hC dL_law_45 (off := 1144) (tgt := 1189) (by decide +kernel) (by decide +kernel) (by decide +kernel) (by decide) (k_drawnThisYear hX hp h hk hn kk)
  | 22, _ => exact J_tabIn hC dL_law_45 (off := 1200) (tgt := 1245) (by decide +kernel) (by decide +kernel) (by decide +kernel) (by decide) (k_forecastCount hX hp h hk hn kk)
  | 23, _ => exact J_tabIn hC dL_law_45 (off := 1213) (tgt := 1258) (by decide +kernel) (by decide +kernel) (by decide +kernel) (by decide) (k_hasForecast hX hp h hk hn kk)
  | 24, _ => exact J_tabIn hC dL_law_45 (off := 1288) (tgt := 1333) (by decide +kernel) (by decide +kernel) (by decide +kernel) (by decide) (k_weatherOf hX hp h hk hn kk)
  | 25, _ => exact J_tabIn hC dL_law_45 (off := 1356) (tgt := 1401) (by decide +kernel) (by decide +kernel) (by decide +kernel) (by decide) (k_soldOf hX hp h hk hn kk)
  | 26, _ => exact J_tabIn hC dL_law_45 (off := 1424) (tgt := 1469) (by decide +kernel) (by decide +kernel) (by decide +kernel) (by decide) (k_paidOf hX hp h hk hn kk)
  | 27, _ => exact J_tabIn hC dL_law_45 (off := 1492) (tgt := 1537) (by decide +kernel) (by decide +kernel) (by decide +kernel) (by decide) (k_pageOf hX hp h hk hn kk)
  | 28, _ => exact J_tabIn hC dL_law_45 (off := 1560) (tgt := 1605) (by decide +kernel) (by decide +kernel) (by decide +kernel) (by decide) (k_forecastAt hX hp h hk hn kk)
  | 29, _ => exact J_tabIn hC dL_law_45 (off := 1616) (tgt := 1661) (by decide +kernel) (by decide +kernel) (by decide +kernel) (by decide) (k_pageCount hX hp h hk hn kk)
  | 30, _ => exact J_tabIn hC dL_law_45 (off := 1629) (tgt := 1674) (by decide +kernel) (by decide +kernel) (by decide +kernel) (by decide) (k_refundOf hX hp h hk hn kk)
  | 31, _ => exact J_tabIn hC dL_law_45 (off := 1685) (tgt := 1730) (by decide +kernel) (by decide +kernel) (by decide +kernel) (by decide) (k_canRetract hX hp h hk hn kk)
  | 32, _ => exact J_tabIn hC dL_law_45 (off := 1748) (tgt := 1793) (by decide +kernel) (by decide +kernel) (by decide +kernel) (by decide) (k_printRefusal hX hp h hk hn kk)
  | 33, _ => exact J_tabIn hC dL_law_45 (off := 1816) (tgt := 1861) (by decide +kernel) (by decide +kernel) (by decide +kernel) (by decide) (k_likeliestWeather hX hp h hk hn kk)
  | 34, _ => exact J_tabIn hC dL_law_45 (off := 1829) (tgt := 1874) (by decide +kernel) (by decide +kernel) (by decide +kernel) (by decide) (k_tomorrowIn hX hp h hk hn kk)
  | 35, _ => exact J_tabIn hC dL_law_45 (off := 1885) (tgt := 1930) (by decide +kernel) (by decide +kernel) (by decide +kernel) (by decide) (k_regretCount hX hp h hk hn kk)
  | 36, _ => exact J_tabIn hC dL_law_45 (off := 1898) (tgt := 1943) (by decide +kernel) (by decide +kernel) (by decide +kernel) (by decide) (k_regretAt hX hp h hk hn kk)
  | 37, _ => exact J_tabIn hC dL_law_45 (off := 1954) (tgt := 1999) (by decide +kernel) (by decide +kernel) (by decide +kernel) (by decide) (k_hits hX hp h hk hn kk)
  | 38, _ => exact J_tabIn hC dL_law_45 (off := 1967) (tgt := 2012) (by decide +kernel) (by decide +kernel) (by decide +kernel) (by decide) (k_regrets hX hp h hk hn kk)
  | 39, _ => exact J_tabIn hC dL_law_45 (off := 1980) (tgt := 2025) (by decide +kernel) (by decide +kernel) (by decide +kernel) (by decide) (k_retractions hX hp h hk hn kk)
  | 40, _ => exact J_tabIn hC dL_law_45 (off := 1993) (tgt := 2038) (by decide +kernel) (by decide +kernel) (by decide +kernel) (by decide) (k_coinsAfter hX hp h hk hn kk)
  | 41, _ => exact J_tabIn hC dL_law_45 (off := 2049) (tgt := 2094) (by decide +kernel) (by decide +kernel) (by decide +kernel) (by decide) (k_trustAfter hX hp h hk hn kk)
  | 42, _ => exact J_tabIn hC dL_law_45 (off := 2117) (tgt := 2162) (by decide +kernel) (by decide +kernel) (by decide +kernel) (by decide) (k_daysUntilEmpty hX hp h hk hn kk)
  | 43, _ => exact J_tabIn hC dL_law_45 (off := 2130) (tgt := 2175) (by decide +kernel) (by decide +kernel) (by decide +kernel) (by decide) (k_bestSeller hX hp h hk hn kk)
  | 44, _ => exact J_tabIn hC dL_law_45 (off := 2143) (tgt := 2188) (by decide +kernel) (by decide +kernel) (by decide +kernel) (by decide) (k_copyDifference hX hp h hk hn kk)
  | 45, _ => exact J_tabIn hC dL_law_45 (off := 2156) (tgt := 2201) (by decide +kernel) (by decide +kernel) (by decide +kernel) (by decide) (k_coinDifference hX hp h hk hn kk)
  | 46, _ => exact J_tabIn hC dL_law_45 (off := 2169) (tgt := 2214) (by decide +kernel) (by decide +kernel) (by decide +kernel) (by decide) (k_bookErrors hX hp h hk hn kk)
  | 47, _ => exact J_tabIn hC dL_law_45 (off := 2182) (tgt := 2227) (by decide +kernel) (by decide +kernel) (by decide +kernel) (by decide) (k_hitShare hX hp h hk hn kk)
  | 48, _ => exact J_tabIn hC dL_law_45 (off := 2225) (tgt := 2270) (by decide +kernel) (by decide +kernel) (by decide +kernel) (by decide) (k_averageTrust hX hp h hk hn kk)
  | 49, _ => exact J_tabIn hC dL_law_45 (off := 2266) (tgt := 2311) (by decide +kernel) (by decide +kernel) (by decide +kernel) (by decide) (k_print hX hp h hk hn kk)
  | 50, _ => exact J_tabIn hC dL_law_45 (off := 2346) (tgt := 2391) (by decide +kernel) (by decide +kernel) (by decide +kernel) (by decide) (k_retract hX hp h hk hn kk)
  | 51, _ => exact J_tabIn hC dL_law_45 (off := 2402) (tgt := 2447) (by decide +kernel) (by decide +kernel) (by decide +kernel) (by decide) (k_setTrust hX hp h hk hn kk)
  | 52, _ => exact J_tabIn hC dL_law_45 (off := 2470) (tgt := 2515) (by decide +kernel) (by decide +kernel) (by decide +kernel) (by decide) (k_setPeople hX hp h hk hn kk)
  | 53, _ => exact J_tabIn hC dL_law_45 (off := 2538) (tgt := 2583) (by decide +kernel) (by decide +kernel) (by decide +kernel) (by decide) (k_setOdds hX hp h hk hn kk)
  | 54, _ => exact J_tabIn hC dL_law_45 (off := 2606) (tgt := 2651) (by decide +kernel) (by decide +kernel) (by decide +kernel) (by decide) (k_pass hX hp h hk hn kk)
  | 55, _ => exact J_tabIn hC dL_law_45 (off := 2662) (tgt := 2707) (by decide +kernel) (by decide +kernel) (by decide +kernel) (by decide) (k_writePage hX hp h hk hn kk)
  | 56, _ => exact J_tabIn hC dL_law_45 (off := 2718) (tgt := 2763) (by decide +kernel) (by decide +kernel) (by decide +kernel) (by decide) (k_outputByte hX hp h hk hn kk)
  | 57, _ => exact J_tabIn hC dL_law_45 (off := 2774) (tgt := 2819) (by decide +kernel) (by decide +kernel) (by decide +kernel) (by decide) (k_save hX hp h hk hn kk)
  | 58, _ => exact J_tabIn hC dL_law_45 (off := 2830) (tgt := 2875) (by decide +kernel) (by decide +kernel) (by decide +kernel) (by decide) (k_restore hX hp h hk hn kk)
  | 59, _ => exact J_tabIn hC dL_law_45 (off := 2886) (tgt := 2931) (by decide +kernel) (by decide +kernel) (by decide +kernel) (by decide) (k_undo hX hp h hk hn kk)
  | 60, _ => exact J_tabOut hC dL_law_45 (tgt := 2975) (Or.inr (by decide +kernel)) (by decide) hz
  | 61, _ => exact J_tabOut hC dL_law_45 (tgt := 2975) (Or.inr (by decide +kernel)) (by decide) hz
  | 62, _ => exact J_tabOut hC dL_law_45 (tgt := 2975) (Or.inr (by decide +kernel)) (by decide) hz
  | 63, _ => exact J_tabOut hC dL_law_45 (tgt := 2975) (Or.inr (by decide +kernel)) (by decide) hz
  | w + 64, hw => exact absurd hw (by omega)
set_option maxHeartbeats 4000000 in
theorem law_loop {x : JX} {G : gT} {w0 : Cond} {b L : Nat} {xs : Nat → Int32} (hX : LX x G w0 b L xs) {ol od : Nat} {u : Nat → Nat → Nat} {m : Nat → Nat} (hend : ∀ z M f g c k n, k ≤ 601024 → n ≤ 7293034 → J x G (LW G ol od u m z M f g) k n (lvL b u m ol od c) [] 2981) : ∀ d c z M f g k n, 513 ≤ c + d → 6 * c ≤ L → k ≤ 400 + 4 * c → n ≤ 9000 + 24 * c → REL c z M → J x G (LW G ol od u m z M f g) k n (lvL b u m ol od c) [] 28 := by
  intro d
  induction d with
  | zero =>
    intro c z M f g k n h1 h2 h3 h4 h
    have := hX.2.2.2.2.2.2.2
    omega
  | succ d ih =>
    intro c z M f g k n h1 h2 h3 h4 h
    obtain ⟨hC, hst, hxT, hxN, hXa, hbl, hbA, hL⟩ := hX
    have hX : LX x G w0 b L xs := ⟨hC, hst, hxT, hxN, hXa, hbl, hbA, hL⟩
    refine J_iload hC dL_law_28 5 rfl ?_
    refine J_aload_n hC dL_law_30 0 rfl rfl ?_
    refine J_sclen hC hXa hbl hbA dL_law_31 ?_
    refine J_bipush (v := nI 6) hC dL_law_32 rfl ?_
    refine J_isub (v := nI L - nI 6) hC dL_law_34 rfl ?_
    refine J_ic_gt (tgt := 2981) hC dL_law_35 (by decide) (fun _ => hend z M f g c k n (by omega) (by omega)) (fun hc => ?_)
    have hc6 : 6 * c + 6 ≤ L := by
      rw [Int32.lt_iff_toInt_lt, nI_sub6 hL, nI_toInt (by omega)] at hc
      omega
    refine J_aload_n hC dL_law_38 0 rfl rfl ?_
    refine J_iload hC dL_law_39 5 rfl ?_
    refine J_sald (v := xs (6 * c)) hC hXa hbl hbA dL_law_41 (by omega) (by omega) rfl ?_
    refine J_bipush (v := nI 63) hC dL_law_42 rfl ?_
    obtain ⟨w, hw, e⟩ := pk_andE (xs (6 * c)) (m := 63) 6 (by decide)
    refine J_iand (v := nI w) hC dL_law_44 e ?_
    have kk : ∀ z M f g k1 n1, k1 ≤ 400 + 4 * (c + 1) → n1 ≤ 9000 + 24 * (c + 1) → REL (c + 1) z M → J x G (LW G ol od u m z M f g) k1 n1 (lvL b u m ol od c) [] 2975 := by
      intro z M f g k1 n1 hk1 hn1 h'
      refine J_iinc hC [(5, .int (nI (6 * (c + 1)))), (0, .ref b), (1, .ref (u 4 0)), (2, .ref (m 0)), (3, .ref ol), (4, .ref od)] dL_law_2975 5 rfl (nI_incc _ 6 _ rfl) (by decide) rfl ?_
      refine J_goto (tgt := 28) hC dL_law_2978 (by decide) ?_
      refine J_lv [1, 2, 3, 4, 5, 0] rfl ?_
      exact ih (c + 1) z M f g k1 n1 (by omega) (by omega) hk1 hn1 h'
    exact law_tab hX hc6 h (by omega) (by omega) (fun z M f g h' => kk z M f g (k + 4) (n + 24) (by omega) (by omega) h') (kk z M f g k n (by omega) (by omega) h.idle) w (by omega)
set_option maxHeartbeats 4000000 in
theorem law_go {x : JX} {G : gT} {w0 : Cond} {b L : Nat} {xs : Nat → Int32} (hX : LX x G w0 b L xs) (h0 : REL 0 z0 m0c) (hend : ∀ ol od u m z M f g c k n, k ≤ 601024 → n ≤ 7293034 → J x G (LW G ol od u m z M f g) k n (lvL b u m ol od c) [] 2981) : J x G [] 0 0 [(0, .ref b)] [] 0 := by
  have hC := hX.1
  refine J_new (ci := 10) hC [.null, .null, .null, .null, .null, .null, .null, .int 0, .int 0] wu_X10 rfl tyX10_ok dL_law_0 wk_L_8 wt_X10 wi_X10 (fun j hj => by rcases (show j = 0 ∨ j = 1 ∨ j = 2 ∨ j = 3 ∨ j = 4 ∨ j = 5 ∨ j = 6 ∨ j = 7 ∨ j = 8 by omega) with rfl | rfl | rfl | rfl | rfl | rfl | rfl | rfl | rfl <;> rfl) (by decide) (by decide) (fun o => ?_)
  refine J_dup hC dL_law_3 rfl ?_
  refine J_callC hC dL_law_4 wl_L_139 yc_X10 (c_X10_init _ G o) rfl rfl ⟨Nat.le_of_ble_eq_true rfl, Nat.le_of_ble_eq_true rfl⟩ (Nat.le_of_ble_eq_true rfl) (Nat.le_of_ble_eq_true rfl) (Nat.le_of_ble_eq_true rfl) (fun u hu => ?_)
  refine J_astore_n hC [(1, .ref (u 4 0)), (0, .ref b)] dL_law_7 rfl (by decide) (by rw [hu]; rfl) ?_
  refine J_new (ci := 11) hC [.null, .null, .null, .null, .null, .null, .int 0, .int 0, .int 0, .null, .int 0, .int 0, .int 0, .int 0, .int 0, .int 0, .int 0, .int 0, .null, .int 0] wu_X11 rfl tyX11_ok dL_law_8 wk_L_140 wt_X11 wi_X11 (fun j hj => by rcases (show j = 0 ∨ j = 1 ∨ j = 2 ∨ j = 3 ∨ j = 4 ∨ j = 5 ∨ j = 6 ∨ j = 7 ∨ j = 8 ∨ j = 9 ∨ j = 10 ∨ j = 11 ∨ j = 12 ∨ j = 13 ∨ j = 14 ∨ j = 15 ∨ j = 16 ∨ j = 17 ∨ j = 18 ∨ j = 19 by omega) with rfl | rfl | rfl | rfl | rfl | rfl | rfl | rfl | rfl | rfl | rfl | rfl | rfl | rfl | rfl | rfl | rfl | rfl | rfl | rfl <;> rfl) (Nat.le_of_ble_eq_true rfl) (Nat.le_of_ble_eq_true rfl) (fun v => ?_)
  refine J_dup hC dL_law_11 rfl ?_
  refine J_callC hC dL_law_12 wl_L_142 yc_X11 (appr_v (ofW G u z0) (c_X11_init _ G v)) rfl rfl ⟨Nat.le_of_ble_eq_true rfl, Nat.le_of_ble_eq_true rfl⟩ (Nat.le_of_ble_eq_true rfl) (Nat.le_of_ble_eq_true rfl) (Nat.le_of_ble_eq_true rfl) (fun m hm => ?_)
  refine J_astore_n hC [(2, .ref (m 0)), (1, .ref (u 4 0)), (0, .ref b)] dL_law_15 rfl (by decide) (by rw [hm]; rfl) ?_
  refine J_iconst (v := nI 1) hC dL_law_16 rfl ?_
  refine J_newJ hC dL_law_17 (by decide) (Nat.le_of_ble_eq_true rfl) (Nat.le_of_ble_eq_true rfl) (fun ol => ?_)
  refine J_astore_n hC [(3, .ref ol), (2, .ref (m 0)), (1, .ref (u 4 0)), (0, .ref b)] dL_law_19 rfl (by decide) rfl ?_
  refine J_iconst (v := nI 1) hC dL_law_20 rfl ?_
  refine J_newD hC dL_law_21 (by decide) (Nat.le_of_ble_eq_true rfl) (Nat.le_of_ble_eq_true rfl) (fun od => ?_)
  refine J_astore hC [(4, .ref od), (3, .ref ol), (2, .ref (m 0)), (1, .ref (u 4 0)), (0, .ref b)] dL_law_23 (by decide) rfl ?_
  refine J_iconst (v := nI (6 * 0)) hC dL_law_25 rfl ?_
  refine J_istore hC [(5, .int (nI (6 * 0))), (4, .ref od), (3, .ref ol), (2, .ref (m 0)), (1, .ref (u 4 0)), (0, .ref b)] dL_law_26 (by decide) rfl ?_
  refine J_lv [5, 4, 3, 2, 1, 0] rfl ?_
  refine J_perm (ws' := LW G ol od u m z0 m0c (fun _ => 0) (fun _ => 0)) ?_ ?_
  · exact permS (fun e => by simp only [LW, LC, DC, List.map_append, List.map_cons, List.sum_append, List.sum_cons, List.map_nil, List.sum_nil]; omega)
  · exact law_loop hX (fun z M f g c k n hk hn => hend ol od u m z M f g c k n hk hn) 513 0 z0 m0c _ _ _ _ (by omega) (by omega) (Nat.le_of_ble_eq_true rfl) (Nat.le_of_ble_eq_true rfl) h0

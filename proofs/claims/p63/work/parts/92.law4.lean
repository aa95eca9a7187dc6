/-! THE LAW: its text -/
def numL (v : Nat) : List Nat := (List.range (dgs v)).map fun i => 48 + v / 10 ^ (dgs v - 1 - i) % 10
def kL : Nat → List Nat := fun i => if i = 10 then [97, 108, 109, 97, 110, 97, 99, 32] else if i = 11 then [118, 105, 108, 108, 97, 103, 101, 32] else [102, 97, 105, 114, 32]
/-- a builder's text -/
def TX (n m : Nat) (a : Nat → Int32) (t : List Nat) : Prop := n = t.length ∧ (∀ j, j < n → a j = nI (t.getD j 0)) ∧ n ≤ m ∧ m ≤ 300 ∧ sb_Fit a
theorem tx_add {n m m' k : Nat} {a a' : Nat → Int32} {t : List Nat} (hT : TX n m a t) (L : List Nat) (hk : k = L.length) (h1 : n + k ≤ m') (h2 : m' ≤ 300) (h3 : ∀ j, j < n → a' j = a j) (h4 : ∀ i, i < k → a' (n + i) = nI (L.getD i 0)) (h5 : sb_Fit a') : TX (n + k) m' a' (t ++ L) := by
  obtain ⟨g1, g2, g3, g4, g5⟩ := hT
  refine ⟨by rw [List.length_append, ← hk, ← g1], fun j hj => ?_, h1, h2, h5⟩
  by_cases hjn : j < n
  · rw [h3 j hjn, g2 j hjn, List.getD_eq_getElem?_getD, List.getD_eq_getElem?_getD, List.getElem?_append_left (by omega)]
  · obtain ⟨i, rfl⟩ : ∃ i, j = n + i := ⟨j - n, by omega⟩
    rw [h4 i (by omega), List.getD_eq_getElem?_getD, List.getD_eq_getElem?_getD, List.getElem?_append_right (by omega), show n + i - t.length = i by omega]
theorem numL_len (v : Nat) : (numL v).length = dgs v := by rw [numL, List.length_map, List.length_range]
theorem numL_get {v i : Nat} (h : i < dgs v) : (numL v).getD i 0 = 48 + v / 10 ^ (dgs v - 1 - i) % 10 := by
  rw [numL, List.getD_eq_getElem?_getD, List.getElem?_map, List.getElem?_range h]
  rfl
theorem tx_num {n m m' v : Nat} {a a' : Nat → Int32} {t : List Nat} (hT : TX n m a t) (hu : n + dgs v ≤ m' ∧ m' ≤ 300 ∧ (∀ j, j < n → a' j = a j) ∧ (∀ i, i < dgs v → a' (n + i) = dgc v i) ∧ sb_Fit a') : TX (n + dgs v) m' a' (t ++ numL v) := tx_add hT _ (numL_len v).symm hu.1 hu.2.1 hu.2.2.1 (fun i hi => (hu.2.2.2.1 i hi).trans (by rw [numL_get hi, dgc])) hu.2.2.2.2
theorem tx_chr {n m m' c : Nat} {a a' : Nat → Int32} {t : List Nat} (hT : TX n m a t) (hu : n + 1 ≤ m' ∧ m' ≤ 300 ∧ (∀ j, j < n → a' j = a j) ∧ a' n = nI c ∧ sb_Fit a') : TX (n + 1) m' a' (t ++ [c]) := tx_add hT [c] rfl hu.1 hu.2.1 hu.2.2.1 (fun i hi => by obtain rfl : i = 0 := (by omega); exact hu.2.2.2.1) hu.2.2.2.2
theorem kL_ok : ∀ i, i < 3 → SKn.getD (10 + i) 0 = (kL (10 + i)).length ∧ ∀ j, j < SKn.getD (10 + i) 0 → (SKb.getD (10 + i) []).getD j 0 = nI ((kL (10 + i)).getD j 0) := by decide +kernel
theorem tx_str {n m m' : Nat} (i : Nat) (hi : i < 3) {a a' : Nat → Int32} {t : List Nat} (hT : TX n m a t) (hu : n + SKn.getD (10 + i) 0 ≤ m' ∧ m' ≤ 300 ∧ (∀ j, j < n → a' j = a j) ∧ (∀ j, j < SKn.getD (10 + i) 0 → a' (n + j) = (SKb.getD (10 + i) []).getD j 0) ∧ sb_Fit a') : TX (n + SKn.getD (10 + i) 0) m' a' (t ++ kL (10 + i)) := tx_add hT _ (kL_ok i hi).1 hu.1 hu.2.1 hu.2.2.1 (fun j hj => (hu.2.2.2.1 j hj).trans ((kL_ok i hi).2 j hj)) hu.2.2.2.2
theorem tx_ini {m' : Nat} {a' : Nat → Int32} (hu : SKn.getD 10 0 ≤ m' ∧ m' ≤ 300 ∧ (∀ j, j < SKn.getD 10 0 → a' j = (SKb.getD 10 []).getD j 0) ∧ sb_Fit a') : TX (SKn.getD 10 0) m' a' (kL 10) := ⟨(kL_ok 0 (by decide)).1, fun j hj => (hu.2.2.1 j hj).trans ((kL_ok 0 (by decide)).2 j hj), hu.1, hu.2.1, hu.2.2.2⟩
theorem dgs_99 {v : Nat} (h : v ≤ 99) : dgs v ≤ 2 := by unfold dgs; split <;> (try split) <;> (try split) <;> omega
theorem dgs_999 {v : Nat} (h : v ≤ 999) : dgs v ≤ 3 := by unfold dgs; split <;> (try split) <;> (try split) <;> omega
theorem i2c_s {n : Nat} (h : n < 128) : ((nI n).toUInt32 % 65536).toInt32 = nI n := (by decide +kernel : ∀ i : Fin 128, ((nI i.1).toUInt32 % 65536).toInt32 = nI i.1) ⟨n, h⟩
theorem oddsN_le (G : gT) (w : Nat) : oddsN G w ≤ 20 := by unfold oddsN; split <;> (try split) <;> omega
theorem peopleN_le (G : gT) (v : Nat) : peopleN G v ≤ 99 := by unfold peopleN; omega
theorem trustN_le (G : gT) (v : Nat) : trustN G v ≤ 100 := by unfold trustN; omega
theorem placeN_le (G : gT) (v : Nat) : placeN G v ≤ 2 := by unfold placeN; omega
theorem periodN_le (G : gT) (v : Nat) : periodN G v ≤ 12 := by unfold periodN; omega
theorem stockN_le (G : gT) (v : Nat) : stockN G v ≤ 40 := by unfold stockN; omega
theorem priceN_le (G : gT) (v : Nat) : priceN G v ≤ 20 := by unfold priceN; omega
/-- the text: its pieces -/
def headL (G : gT) : List Nat := kL 10 ++ numL (scN G 0 % 1024) ++ [32] ++ numL (oddsN G 0) ++ [32] ++ numL (oddsN G 1) ++ [32] ++ numL (oddsN G 2) ++ [59]
def vilL (G : gT) (k : Nat) (t : List Nat) : List Nat := t ++ kL (10 + 1) ++ [97 + k] ++ [32] ++ numL (peopleN G k) ++ [32] ++ numL (trustN G k) ++ [59]
def fairL (G : gT) (k : Nat) (t : List Nat) : List Nat := t ++ kL (10 + 2) ++ [112 + k] ++ [32] ++ [97 + placeN G k] ++ [32] ++ numL (periodN G k) ++ [32] ++ numL (stockN G k) ++ [32] ++ numL (priceN G k) ++ [59]
def textL (G : gT) : List Nat := fairL G 1 (fairL G 0 (vilL G 2 (vilL G 1 (vilL G 0 (headL G)))))
set_option maxHeartbeats 8000000 in
set_option maxRecDepth 100000 in
theorem c_L_text (l : Launch) (G : gT) (hb : G.2.2.1 15 < 2 ^ 31) : MA l yL_text cL_text 3 (some (FieldType.object "java/lang/String")) { frames := 9, cells := 80, slots := 20000, locals := 240 } [.ref (G.2.2.1 14)] G ([]) (fun (u : Nat × Nat × Nat × (Nat → Int32)) => u.2.2.1 = (textL G).length ∧ (∀ j, j < u.2.2.1 → u.2.2.2 j = nI ((textL G).getD j 0)) ∧ u.2.2.1 ≤ 109) (fun u => u.1) (fun u => sgW G u.1 u.2.1 u.2.2.1 u.2.2.2) := by
  refine jm_a (own := RL) (by decide) rfl (Or.inl ⟨_, rfl⟩) (Nat.le_of_ble_eq_true rfl) (fun x hl hC hR => ?_)
  subst hl
  refine J_new (ci := 13) hC [.null, .int 0, .int 0, .int 0] wu_J4 rfl tyJ4_ok dL_text_0 wk_L_40 wt_J4 wi_J4 (fun j hj => by rcases (show j = 0 ∨ j = 1 ∨ j = 2 ∨ j = 3 by omega) with rfl | rfl | rfl | rfl <;> rfl) (by decide) (by decide) (fun p => ?_)
  refine J_wq (show _ = [(p, .inr (13, [.null, .int 0, .int 0, .int 0]))] from rfl) ?_
  refine J_dup hC dL_text_3 rfl ?_
  refine J_ldcS (i := 10) hC (by decide) rfl rfl dL_text_4 ?_
  refine J_callC hC dL_text_6 wl_L_44 yc_J4_init_a7421 (c_sb_ini _ G p 10 (by decide) (by decide)) rfl rfl ⟨Nat.le_of_ble_eq_true rfl, Nat.le_of_ble_eq_true rfl⟩ (Nat.le_of_ble_eq_true rfl) (Nat.le_of_ble_eq_true rfl) (Nat.le_of_ble_eq_true rfl) (fun u hu => ?_)
  obtain ⟨v0, m0, a0⟩ := u
  have T0 := tx_ini hu
  clear hu
  obtain ⟨n0, en0⟩ : ∃ z, z = SKn.getD 10 0 := ⟨_, rfl⟩
  rw [← en0] at T0 ⊢
  have b0 : n0 ≤ 8 := Nat.le_of_eq en0
  obtain ⟨t0, et0⟩ : ∃ z, z = kL 10 := ⟨_, rfl⟩
  rw [← et0] at T0
  have hs0 := scN_lt G 0
  refine J_aload_n hC dL_text_9 0 rfl rfl ?_
  refine J_iconst (v := 0) hC dL_text_10 rfl ?_
  refine J_callSi hC dL_text_11 wl_L_33 wi_L yi_L_cell (c_L_cell _ G (sbW G p v0 m0 n0 a0) hb 0 (by decide)) rfl rfl ⟨Nat.le_of_ble_eq_true rfl, Nat.le_of_ble_eq_true rfl⟩ (Nat.le_of_ble_eq_true rfl) (Nat.le_of_ble_eq_true rfl) (Nat.le_of_ble_eq_true rfl) (fun r9 u9 h9 => ?_)
  subst h9
  refine J_sipush (v := 1024) hC dL_text_14 rfl ?_
  refine J_irem (v := nI (scN G 0 % 1024)) hC dL_text_17 (by decide) (nMd (by omega) (by decide) (by decide)) ?_
  refine J_callVa hC dL_text_18 wl_L_47 yi_J4_append_bf812 (c_sb_num _ G p v0 m0 n0 a0 (scN G 0 % 1024) (by have := hs0; omega) T0.2.2.1 T0.2.2.2.1 T0.2.2.2.2 (by have := dgs_le (scN G 0 % 1024); omega)) rfl rfl 0 13 rfl rfl ⟨Nat.le_of_ble_eq_true rfl, Nat.le_of_ble_eq_true rfl⟩ (Nat.le_of_ble_eq_true rfl) (Nat.le_of_ble_eq_true rfl) (Nat.le_of_ble_eq_true rfl) (fun u hu => ?_)
  obtain ⟨v1, m1, a1⟩ := u
  have T1 := tx_num T0 hu
  clear hu
  obtain ⟨n1, en1⟩ : ∃ z, z = n0 + dgs (scN G 0 % 1024) := ⟨_, rfl⟩
  rw [← en1] at T1 ⊢
  have b1 : n1 ≤ 12 := by have := dgs_le (scN G 0 % 1024); omega
  obtain ⟨t1, et1⟩ : ∃ z, z = t0 ++ numL (scN G 0 % 1024) := ⟨_, rfl⟩
  rw [← et1] at T1
  refine J_bipush (v := nI 32) hC dL_text_21 rfl ?_
  refine J_callVa hC dL_text_23 wl_L_51 yi_J4_append_cf468 (c_sb_chr _ G p v1 m1 n1 a1 32 (by decide) T1.2.2.1 T1.2.2.2.1 T1.2.2.2.2 (by omega)) rfl rfl 0 13 rfl rfl ⟨Nat.le_of_ble_eq_true rfl, Nat.le_of_ble_eq_true rfl⟩ (Nat.le_of_ble_eq_true rfl) (Nat.le_of_ble_eq_true rfl) (Nat.le_of_ble_eq_true rfl) (fun u hu => ?_)
  obtain ⟨v2, m2, a2⟩ := u
  have T2 := tx_chr T1 hu
  clear hu
  obtain ⟨n2, en2⟩ : ∃ z, z = n1 + 1 := ⟨_, rfl⟩
  rw [← en2] at T2 ⊢
  have b2 : n2 ≤ 13 := by omega
  obtain ⟨t2, et2⟩ : ∃ z, z = t1 ++ [32] := ⟨_, rfl⟩
  rw [← et2] at T2
  refine J_aload_n hC dL_text_26 0 rfl rfl ?_
  refine J_iconst (v := 0) hC dL_text_27 rfl ?_
  refine J_callSi hC dL_text_28 wl_L_54 wi_L yi_L_odds (c_L_odds _ G (sbW G p v2 m2 n2 a2) hb 0 (by decide)) rfl rfl ⟨Nat.le_of_ble_eq_true rfl, Nat.le_of_ble_eq_true rfl⟩ (Nat.le_of_ble_eq_true rfl) (Nat.le_of_ble_eq_true rfl) (Nat.le_of_ble_eq_true rfl) (fun r9 u9 h9 => ?_)
  subst h9
  refine J_callVa hC dL_text_31 wl_L_47 yi_J4_append_bf812 (c_sb_num _ G p v2 m2 n2 a2 (oddsN G 0) (by have := oddsN_le G 0; omega) T2.2.2.1 T2.2.2.2.1 T2.2.2.2.2 (by have := dgs_99 (v := oddsN G 0) (by have := oddsN_le G 0; omega); omega)) rfl rfl 0 13 rfl rfl ⟨Nat.le_of_ble_eq_true rfl, Nat.le_of_ble_eq_true rfl⟩ (Nat.le_of_ble_eq_true rfl) (Nat.le_of_ble_eq_true rfl) (Nat.le_of_ble_eq_true rfl) (fun u hu => ?_)
  obtain ⟨v3, m3, a3⟩ := u
  have T3 := tx_num T2 hu
  clear hu
  obtain ⟨n3, en3⟩ : ∃ z, z = n2 + dgs (oddsN G 0) := ⟨_, rfl⟩
  rw [← en3] at T3 ⊢
  have b3 : n3 ≤ 15 := by have := dgs_99 (v := oddsN G 0) (by have := oddsN_le G 0; omega); omega
  obtain ⟨t3, et3⟩ : ∃ z, z = t2 ++ numL (oddsN G 0) := ⟨_, rfl⟩
  rw [← et3] at T3
  refine J_bipush (v := nI 32) hC dL_text_34 rfl ?_
  refine J_callVa hC dL_text_36 wl_L_51 yi_J4_append_cf468 (c_sb_chr _ G p v3 m3 n3 a3 32 (by decide) T3.2.2.1 T3.2.2.2.1 T3.2.2.2.2 (by omega)) rfl rfl 0 13 rfl rfl ⟨Nat.le_of_ble_eq_true rfl, Nat.le_of_ble_eq_true rfl⟩ (Nat.le_of_ble_eq_true rfl) (Nat.le_of_ble_eq_true rfl) (Nat.le_of_ble_eq_true rfl) (fun u hu => ?_)
  obtain ⟨v4, m4, a4⟩ := u
  have T4 := tx_chr T3 hu
  clear hu
  obtain ⟨n4, en4⟩ : ∃ z, z = n3 + 1 := ⟨_, rfl⟩
  rw [← en4] at T4 ⊢
  have b4 : n4 ≤ 16 := by omega
  obtain ⟨t4, et4⟩ : ∃ z, z = t3 ++ [32] := ⟨_, rfl⟩
  rw [← et4] at T4
  refine J_aload_n hC dL_text_39 0 rfl rfl ?_
  refine J_iconst (v := 1) hC dL_text_40 rfl ?_
  refine J_callSi hC dL_text_41 wl_L_54 wi_L yi_L_odds (c_L_odds _ G (sbW G p v4 m4 n4 a4) hb 1 (by decide)) rfl rfl ⟨Nat.le_of_ble_eq_true rfl, Nat.le_of_ble_eq_true rfl⟩ (Nat.le_of_ble_eq_true rfl) (Nat.le_of_ble_eq_true rfl) (Nat.le_of_ble_eq_true rfl) (fun r9 u9 h9 => ?_)
  subst h9
  refine J_callVa hC dL_text_44 wl_L_47 yi_J4_append_bf812 (c_sb_num _ G p v4 m4 n4 a4 (oddsN G 1) (by have := oddsN_le G 1; omega) T4.2.2.1 T4.2.2.2.1 T4.2.2.2.2 (by have := dgs_99 (v := oddsN G 1) (by have := oddsN_le G 1; omega); omega)) rfl rfl 0 13 rfl rfl ⟨Nat.le_of_ble_eq_true rfl, Nat.le_of_ble_eq_true rfl⟩ (Nat.le_of_ble_eq_true rfl) (Nat.le_of_ble_eq_true rfl) (Nat.le_of_ble_eq_true rfl) (fun u hu => ?_)
  obtain ⟨v5, m5, a5⟩ := u
  have T5 := tx_num T4 hu
  clear hu
  obtain ⟨n5, en5⟩ : ∃ z, z = n4 + dgs (oddsN G 1) := ⟨_, rfl⟩
  rw [← en5] at T5 ⊢
  have b5 : n5 ≤ 18 := by have := dgs_99 (v := oddsN G 1) (by have := oddsN_le G 1; omega); omega
  obtain ⟨t5, et5⟩ : ∃ z, z = t4 ++ numL (oddsN G 1) := ⟨_, rfl⟩
  rw [← et5] at T5
  refine J_bipush (v := nI 32) hC dL_text_47 rfl ?_
  refine J_callVa hC dL_text_49 wl_L_51 yi_J4_append_cf468 (c_sb_chr _ G p v5 m5 n5 a5 32 (by decide) T5.2.2.1 T5.2.2.2.1 T5.2.2.2.2 (by omega)) rfl rfl 0 13 rfl rfl ⟨Nat.le_of_ble_eq_true rfl, Nat.le_of_ble_eq_true rfl⟩ (Nat.le_of_ble_eq_true rfl) (Nat.le_of_ble_eq_true rfl) (Nat.le_of_ble_eq_true rfl) (fun u hu => ?_)
  obtain ⟨v6, m6, a6⟩ := u
  have T6 := tx_chr T5 hu
  clear hu
  obtain ⟨n6, en6⟩ : ∃ z, z = n5 + 1 := ⟨_, rfl⟩
  rw [← en6] at T6 ⊢
  have b6 : n6 ≤ 19 := by omega
  obtain ⟨t6, et6⟩ : ∃ z, z = t5 ++ [32] := ⟨_, rfl⟩
  rw [← et6] at T6
  refine J_aload_n hC dL_text_52 0 rfl rfl ?_
  refine J_iconst (v := 2) hC dL_text_53 rfl ?_
  refine J_callSi hC dL_text_54 wl_L_54 wi_L yi_L_odds (c_L_odds _ G (sbW G p v6 m6 n6 a6) hb 2 (by decide)) rfl rfl ⟨Nat.le_of_ble_eq_true rfl, Nat.le_of_ble_eq_true rfl⟩ (Nat.le_of_ble_eq_true rfl) (Nat.le_of_ble_eq_true rfl) (Nat.le_of_ble_eq_true rfl) (fun r9 u9 h9 => ?_)
  subst h9
  refine J_callVa hC dL_text_57 wl_L_47 yi_J4_append_bf812 (c_sb_num _ G p v6 m6 n6 a6 (oddsN G 2) (by have := oddsN_le G 2; omega) T6.2.2.1 T6.2.2.2.1 T6.2.2.2.2 (by have := dgs_99 (v := oddsN G 2) (by have := oddsN_le G 2; omega); omega)) rfl rfl 0 13 rfl rfl ⟨Nat.le_of_ble_eq_true rfl, Nat.le_of_ble_eq_true rfl⟩ (Nat.le_of_ble_eq_true rfl) (Nat.le_of_ble_eq_true rfl) (Nat.le_of_ble_eq_true rfl) (fun u hu => ?_)
  obtain ⟨v7, m7, a7⟩ := u
  have T7 := tx_num T6 hu
  clear hu
  obtain ⟨n7, en7⟩ : ∃ z, z = n6 + dgs (oddsN G 2) := ⟨_, rfl⟩
  rw [← en7] at T7 ⊢
  have b7 : n7 ≤ 21 := by have := dgs_99 (v := oddsN G 2) (by have := oddsN_le G 2; omega); omega
  obtain ⟨t7, et7⟩ : ∃ z, z = t6 ++ numL (oddsN G 2) := ⟨_, rfl⟩
  rw [← et7] at T7
  refine J_bipush (v := nI 59) hC dL_text_60 rfl ?_
  refine J_callVa hC dL_text_62 wl_L_51 yi_J4_append_cf468 (c_sb_chr _ G p v7 m7 n7 a7 59 (by decide) T7.2.2.1 T7.2.2.2.1 T7.2.2.2.2 (by omega)) rfl rfl 0 13 rfl rfl ⟨Nat.le_of_ble_eq_true rfl, Nat.le_of_ble_eq_true rfl⟩ (Nat.le_of_ble_eq_true rfl) (Nat.le_of_ble_eq_true rfl) (Nat.le_of_ble_eq_true rfl) (fun u hu => ?_)
  obtain ⟨v8, m8, a8⟩ := u
  have T8 := tx_chr T7 hu
  clear hu
  obtain ⟨n8, en8⟩ : ∃ z, z = n7 + 1 := ⟨_, rfl⟩
  rw [← en8] at T8 ⊢
  have b8 : n8 ≤ 22 := by omega
  obtain ⟨t8, et8⟩ : ∃ z, z = t7 ++ [59] := ⟨_, rfl⟩
  rw [← et8] at T8
  refine J_astore_n hC [(1, .ref p), (0, .ref (G.2.2.1 14))] dL_text_65 rfl (by decide) rfl ?_
  refine J_iconst (v := 0) hC dL_text_66 rfl ?_
  refine J_istore_n hC [(2, .int 0), (1, .ref p), (0, .ref (G.2.2.1 14))] dL_text_67 rfl (by decide) rfl ?_
  refine J_iload_n hC dL_text_68 0 rfl rfl ?_
  refine J_iconst (v := 3) hC dL_text_69 rfl ?_
  refine J_ic_ge (tgt := 125) hC dL_text_70 (by decide) (fun c => absurd c (by decide)) (fun _ => ?_)
  refine J_aload_n hC dL_text_73 1 rfl rfl ?_
  refine J_ldcS (i := 11) hC (by decide) rfl rfl dL_text_74 ?_
  refine J_callVa hC dL_text_76 wl_L_59 yi_J4_append_15ec4 (c_sb_str _ G p v8 m8 n8 a8 (10 + 1) (by decide) T8.2.2.1 T8.2.2.2.1 T8.2.2.2.2 (by have := (by decide : SKn.getD (10 + 1) 0 = 8); omega)) rfl rfl 0 13 rfl rfl ⟨Nat.le_of_ble_eq_true rfl, Nat.le_of_ble_eq_true rfl⟩ (Nat.le_of_ble_eq_true rfl) (Nat.le_of_ble_eq_true rfl) (Nat.le_of_ble_eq_true rfl) (fun u hu => ?_)
  obtain ⟨v9, m9, a9⟩ := u
  have T9 := tx_str 1 (by decide) T8 hu
  clear hu
  obtain ⟨n9, en9⟩ : ∃ z, z = n8 + SKn.getD (10 + 1) 0 := ⟨_, rfl⟩
  rw [← en9] at T9 ⊢
  have b9 : n9 ≤ 30 := by have := (by decide : SKn.getD (10 + 1) 0 = 8); omega
  obtain ⟨t9, et9⟩ : ∃ z, z = t8 ++ kL (10 + 1) := ⟨_, rfl⟩
  rw [← et9] at T9
  refine J_bipush (v := nI 97) hC dL_text_79 rfl ?_
  refine J_iload_n hC dL_text_81 0 rfl rfl ?_
  refine J_iadd (v := nI (97 + 0)) hC dL_text_82 (by decide +kernel) ?_
  refine J_i2c (v := nI (97 + 0)) hC dL_text_83 (i2c_s (n := 97 + 0) (by decide)) ?_
  refine J_callVa hC dL_text_84 wl_L_51 yi_J4_append_cf468 (c_sb_chr _ G p v9 m9 n9 a9 (97 + 0) (by decide) T9.2.2.1 T9.2.2.2.1 T9.2.2.2.2 (by omega)) rfl rfl 0 13 rfl rfl ⟨Nat.le_of_ble_eq_true rfl, Nat.le_of_ble_eq_true rfl⟩ (Nat.le_of_ble_eq_true rfl) (Nat.le_of_ble_eq_true rfl) (Nat.le_of_ble_eq_true rfl) (fun u hu => ?_)
  obtain ⟨v10, m10, a10⟩ := u
  have T10 := tx_chr T9 hu
  clear hu
  obtain ⟨n10, en10⟩ : ∃ z, z = n9 + 1 := ⟨_, rfl⟩
  rw [← en10] at T10 ⊢
  have b10 : n10 ≤ 31 := by omega
  obtain ⟨t10, et10⟩ : ∃ z, z = t9 ++ [97 + 0] := ⟨_, rfl⟩
  rw [← et10] at T10
  refine J_bipush (v := nI 32) hC dL_text_87 rfl ?_
  refine J_callVa hC dL_text_89 wl_L_51 yi_J4_append_cf468 (c_sb_chr _ G p v10 m10 n10 a10 32 (by decide) T10.2.2.1 T10.2.2.2.1 T10.2.2.2.2 (by omega)) rfl rfl 0 13 rfl rfl ⟨Nat.le_of_ble_eq_true rfl, Nat.le_of_ble_eq_true rfl⟩ (Nat.le_of_ble_eq_true rfl) (Nat.le_of_ble_eq_true rfl) (Nat.le_of_ble_eq_true rfl) (fun u hu => ?_)
  obtain ⟨v11, m11, a11⟩ := u
  have T11 := tx_chr T10 hu
  clear hu
  obtain ⟨n11, en11⟩ : ∃ z, z = n10 + 1 := ⟨_, rfl⟩
  rw [← en11] at T11 ⊢
  have b11 : n11 ≤ 32 := by omega
  obtain ⟨t11, et11⟩ : ∃ z, z = t10 ++ [32] := ⟨_, rfl⟩
  rw [← et11] at T11
  refine J_aload_n hC dL_text_92 2 rfl rfl ?_
  refine J_iload_n hC dL_text_93 0 rfl rfl ?_
  refine J_callSi hC dL_text_94 wl_L_62 wi_L yi_L_people (c_L_people _ G (sbW G p v11 m11 n11 a11) hb 0 (by decide)) rfl rfl ⟨Nat.le_of_ble_eq_true rfl, Nat.le_of_ble_eq_true rfl⟩ (Nat.le_of_ble_eq_true rfl) (Nat.le_of_ble_eq_true rfl) (Nat.le_of_ble_eq_true rfl) (fun r9 u9 h9 => ?_)
  subst h9
  refine J_callVa hC dL_text_97 wl_L_47 yi_J4_append_bf812 (c_sb_num _ G p v11 m11 n11 a11 (peopleN G 0) (by have := peopleN_le G 0; omega) T11.2.2.1 T11.2.2.2.1 T11.2.2.2.2 (by have := dgs_99 (peopleN_le G 0); omega)) rfl rfl 0 13 rfl rfl ⟨Nat.le_of_ble_eq_true rfl, Nat.le_of_ble_eq_true rfl⟩ (Nat.le_of_ble_eq_true rfl) (Nat.le_of_ble_eq_true rfl) (Nat.le_of_ble_eq_true rfl) (fun u hu => ?_)
  obtain ⟨v12, m12, a12⟩ := u
  have T12 := tx_num T11 hu
  clear hu
  obtain ⟨n12, en12⟩ : ∃ z, z = n11 + dgs (peopleN G 0) := ⟨_, rfl⟩
  rw [← en12] at T12 ⊢
  have b12 : n12 ≤ 34 := by have := dgs_99 (peopleN_le G 0); omega
  obtain ⟨t12, et12⟩ : ∃ z, z = t11 ++ numL (peopleN G 0) := ⟨_, rfl⟩
  rw [← et12] at T12
  refine J_bipush (v := nI 32) hC dL_text_100 rfl ?_
  refine J_callVa hC dL_text_102 wl_L_51 yi_J4_append_cf468 (c_sb_chr _ G p v12 m12 n12 a12 32 (by decide) T12.2.2.1 T12.2.2.2.1 T12.2.2.2.2 (by omega)) rfl rfl 0 13 rfl rfl ⟨Nat.le_of_ble_eq_true rfl, Nat.le_of_ble_eq_true rfl⟩ (Nat.le_of_ble_eq_true rfl) (Nat.le_of_ble_eq_true rfl) (Nat.le_of_ble_eq_true rfl) (fun u hu => ?_)
  obtain ⟨v13, m13, a13⟩ := u
  have T13 := tx_chr T12 hu
  clear hu
  obtain ⟨n13, en13⟩ : ∃ z, z = n12 + 1 := ⟨_, rfl⟩
  rw [← en13] at T13 ⊢
  have b13 : n13 ≤ 35 := by omega
  obtain ⟨t13, et13⟩ : ∃ z, z = t12 ++ [32] := ⟨_, rfl⟩
  rw [← et13] at T13
  refine J_aload_n hC dL_text_105 2 rfl rfl ?_
  refine J_iload_n hC dL_text_106 0 rfl rfl ?_
  refine J_callSi hC dL_text_107 wl_L_65 wi_L yi_L_trust (c_L_trust _ G (sbW G p v13 m13 n13 a13) hb 0 (by decide)) rfl rfl ⟨Nat.le_of_ble_eq_true rfl, Nat.le_of_ble_eq_true rfl⟩ (Nat.le_of_ble_eq_true rfl) (Nat.le_of_ble_eq_true rfl) (Nat.le_of_ble_eq_true rfl) (fun r9 u9 h9 => ?_)
  subst h9
  refine J_callVa hC dL_text_110 wl_L_47 yi_J4_append_bf812 (c_sb_num _ G p v13 m13 n13 a13 (trustN G 0) (by have := trustN_le G 0; omega) T13.2.2.1 T13.2.2.2.1 T13.2.2.2.2 (by have := dgs_999 (v := trustN G 0) (by have := trustN_le G 0; omega); omega)) rfl rfl 0 13 rfl rfl ⟨Nat.le_of_ble_eq_true rfl, Nat.le_of_ble_eq_true rfl⟩ (Nat.le_of_ble_eq_true rfl) (Nat.le_of_ble_eq_true rfl) (Nat.le_of_ble_eq_true rfl) (fun u hu => ?_)
  obtain ⟨v14, m14, a14⟩ := u
  have T14 := tx_num T13 hu
  clear hu
  obtain ⟨n14, en14⟩ : ∃ z, z = n13 + dgs (trustN G 0) := ⟨_, rfl⟩
  rw [← en14] at T14 ⊢
  have b14 : n14 ≤ 38 := by have := dgs_999 (v := trustN G 0) (by have := trustN_le G 0; omega); omega
  obtain ⟨t14, et14⟩ : ∃ z, z = t13 ++ numL (trustN G 0) := ⟨_, rfl⟩
  rw [← et14] at T14
  refine J_bipush (v := nI 59) hC dL_text_113 rfl ?_
  refine J_callVa hC dL_text_115 wl_L_51 yi_J4_append_cf468 (c_sb_chr _ G p v14 m14 n14 a14 59 (by decide) T14.2.2.1 T14.2.2.2.1 T14.2.2.2.2 (by omega)) rfl rfl 0 13 rfl rfl ⟨Nat.le_of_ble_eq_true rfl, Nat.le_of_ble_eq_true rfl⟩ (Nat.le_of_ble_eq_true rfl) (Nat.le_of_ble_eq_true rfl) (Nat.le_of_ble_eq_true rfl) (fun u hu => ?_)
  obtain ⟨v15, m15, a15⟩ := u
  have T15 := tx_chr T14 hu
  clear hu
  obtain ⟨n15, en15⟩ : ∃ z, z = n14 + 1 := ⟨_, rfl⟩
  rw [← en15] at T15 ⊢
  have b15 : n15 ≤ 39 := by omega
  obtain ⟨t15, et15⟩ : ∃ z, z = t14 ++ [59] := ⟨_, rfl⟩
  rw [← et15] at T15
  refine J_pop hC dL_text_118 rfl ?_
  refine J_iinc hC [(2, .int 1), (1, .ref p), (0, .ref (G.2.2.1 14))] dL_text_119 0 rfl (by decide +kernel) (by decide) rfl ?_
  refine J_goto (tgt := 68) hC dL_text_122 (by decide) ?_
  refine J_iload_n hC dL_text_68 0 rfl rfl ?_
  refine J_iconst (v := 3) hC dL_text_69 rfl ?_
  refine J_ic_ge (tgt := 125) hC dL_text_70 (by decide) (fun c => absurd c (by decide)) (fun _ => ?_)
  refine J_aload_n hC dL_text_73 1 rfl rfl ?_
  refine J_ldcS (i := 11) hC (by decide) rfl rfl dL_text_74 ?_
  refine J_callVa hC dL_text_76 wl_L_59 yi_J4_append_15ec4 (c_sb_str _ G p v15 m15 n15 a15 (10 + 1) (by decide) T15.2.2.1 T15.2.2.2.1 T15.2.2.2.2 (by have := (by decide : SKn.getD (10 + 1) 0 = 8); omega)) rfl rfl 0 13 rfl rfl ⟨Nat.le_of_ble_eq_true rfl, Nat.le_of_ble_eq_true rfl⟩ (Nat.le_of_ble_eq_true rfl) (Nat.le_of_ble_eq_true rfl) (Nat.le_of_ble_eq_true rfl) (fun u hu => ?_)
  obtain ⟨v16, m16, a16⟩ := u
  have T16 := tx_str 1 (by decide) T15 hu
  clear hu
  obtain ⟨n16, en16⟩ : ∃ z, z = n15 + SKn.getD (10 + 1) 0 := ⟨_, rfl⟩
  rw [← en16] at T16 ⊢
  have b16 : n16 ≤ 47 := by have := (by decide : SKn.getD (10 + 1) 0 = 8); omega
  obtain ⟨t16, et16⟩ : ∃ z, z = t15 ++ kL (10 + 1) := ⟨_, rfl⟩
  rw [← et16] at T16
  refine J_bipush (v := nI 97) hC dL_text_79 rfl ?_
  refine J_iload_n hC dL_text_81 0 rfl rfl ?_
  refine J_iadd (v := nI (97 + 1)) hC dL_text_82 (by decide +kernel) ?_
  refine J_i2c (v := nI (97 + 1)) hC dL_text_83 (i2c_s (n := 97 + 1) (by decide)) ?_
  refine J_callVa hC dL_text_84 wl_L_51 yi_J4_append_cf468 (c_sb_chr _ G p v16 m16 n16 a16 (97 + 1) (by decide) T16.2.2.1 T16.2.2.2.1 T16.2.2.2.2 (by omega)) rfl rfl 0 13 rfl rfl ⟨Nat.le_of_ble_eq_true rfl, Nat.le_of_ble_eq_true rfl⟩ (Nat.le_of_ble_eq_true rfl) (Nat.le_of_ble_eq_true rfl) (Nat.le_of_ble_eq_true rfl) (fun u hu => ?_)
  obtain ⟨v17, m17, a17⟩ := u
  have T17 := tx_chr T16 hu
  clear hu
  obtain ⟨n17, en17⟩ : ∃ z, z = n16 + 1 := ⟨_, rfl⟩
  rw [← en17] at T17 ⊢
  have b17 : n17 ≤ 48 := by omega
  obtain ⟨t17, et17⟩ : ∃ z, z = t16 ++ [97 + 1] := ⟨_, rfl⟩
  rw [← et17] at T17
  refine J_bipush (v := nI 32) hC dL_text_87 rfl ?_
  refine J_callVa hC dL_text_89 wl_L_51 yi_J4_append_cf468 (c_sb_chr _ G p v17 m17 n17 a17 32 (by decide) T17.2.2.1 T17.2.2.2.1 T17.2.2.2.2 (by omega)) rfl rfl 0 13 rfl rfl ⟨Nat.le_of_ble_eq_true rfl, Nat.le_of_ble_eq_true rfl⟩ (Nat.le_of_ble_eq_true rfl) (Nat.le_of_ble_eq_true rfl) (Nat.le_of_ble_eq_true rfl) (fun u hu => ?_)
  obtain ⟨v18, m18, a18⟩ := u
  have T18 := tx_chr T17 hu
  clear hu
  obtain ⟨n18, en18⟩ : ∃ z, z = n17 + 1 := ⟨_, rfl⟩
  rw [← en18] at T18 ⊢
  have b18 : n18 ≤ 49 := by omega
  obtain ⟨t18, et18⟩ : ∃ z, z = t17 ++ [32] := ⟨_, rfl⟩
  rw [← et18] at T18
  refine J_aload_n hC dL_text_92 2 rfl rfl ?_
  refine J_iload_n hC dL_text_93 0 rfl rfl ?_
  refine J_callSi hC dL_text_94 wl_L_62 wi_L yi_L_people (c_L_people _ G (sbW G p v18 m18 n18 a18) hb 1 (by decide)) rfl rfl ⟨Nat.le_of_ble_eq_true rfl, Nat.le_of_ble_eq_true rfl⟩ (Nat.le_of_ble_eq_true rfl) (Nat.le_of_ble_eq_true rfl) (Nat.le_of_ble_eq_true rfl) (fun r9 u9 h9 => ?_)
  subst h9
  refine J_callVa hC dL_text_97 wl_L_47 yi_J4_append_bf812 (c_sb_num _ G p v18 m18 n18 a18 (peopleN G 1) (by have := peopleN_le G 1; omega) T18.2.2.1 T18.2.2.2.1 T18.2.2.2.2 (by have := dgs_99 (peopleN_le G 1); omega)) rfl rfl 0 13 rfl rfl ⟨Nat.le_of_ble_eq_true rfl, Nat.le_of_ble_eq_true rfl⟩ (Nat.le_of_ble_eq_true rfl) (Nat.le_of_ble_eq_true rfl) (Nat.le_of_ble_eq_true rfl) (fun u hu => ?_)
  obtain ⟨v19, m19, a19⟩ := u
  have T19 := tx_num T18 hu
  clear hu
  obtain ⟨n19, en19⟩ : ∃ z, z = n18 + dgs (peopleN G 1) := ⟨_, rfl⟩
  rw [← en19] at T19 ⊢
  have b19 : n19 ≤ 51 := by have := dgs_99 (peopleN_le G 1); omega
  obtain ⟨t19, et19⟩ : ∃ z, z = t18 ++ numL (peopleN G 1) := ⟨_, rfl⟩
  rw [← et19] at T19
  refine J_bipush (v := nI 32) hC dL_text_100 rfl ?_
  refine J_callVa hC dL_text_102 wl_L_51 yi_J4_append_cf468 (c_sb_chr _ G p v19 m19 n19 a19 32 (by decide) T19.2.2.1 T19.2.2.2.1 T19.2.2.2.2 (by omega)) rfl rfl 0 13 rfl rfl ⟨Nat.le_of_ble_eq_true rfl, Nat.le_of_ble_eq_true rfl⟩ (Nat.le_of_ble_eq_true rfl) (Nat.le_of_ble_eq_true rfl) (Nat.le_of_ble_eq_true rfl) (fun u hu => ?_)
  obtain ⟨v20, m20, a20⟩ := u
  have T20 := tx_chr T19 hu
  clear hu
  obtain ⟨n20, en20⟩ : ∃ z, z = n19 + 1 := ⟨_, rfl⟩
  rw [← en20] at T20 ⊢
  have b20 : n20 ≤ 52 := by omega
  obtain ⟨t20, et20⟩ : ∃ z, z = t19 ++ [32] := ⟨_, rfl⟩
  rw [← et20] at T20
  refine J_aload_n hC dL_text_105 2 rfl rfl ?_
  refine J_iload_n hC dL_text_106 0 rfl rfl ?_
  refine J_callSi hC dL_text_107 wl_L_65 wi_L yi_L_trust (c_L_trust _ G (sbW G p v20 m20 n20 a20) hb 1 (by decide)) rfl rfl ⟨Nat.le_of_ble_eq_true rfl, Nat.le_of_ble_eq_true rfl⟩ (Nat.le_of_ble_eq_true rfl) (Nat.le_of_ble_eq_true rfl) (Nat.le_of_ble_eq_true rfl) (fun r9 u9 h9 => ?_)
  subst h9
  refine J_callVa hC dL_text_110 wl_L_47 yi_J4_append_bf812 (c_sb_num _ G p v20 m20 n20 a20 (trustN G 1) (by have := trustN_le G 1; omega) T20.2.2.1 T20.2.2.2.1 T20.2.2.2.2 (by have := dgs_999 (v := trustN G 1) (by have := trustN_le G 1; omega); omega)) rfl rfl 0 13 rfl rfl ⟨Nat.le_of_ble_eq_true rfl, Nat.le_of_ble_eq_true rfl⟩ (Nat.le_of_ble_eq_true rfl) (Nat.le_of_ble_eq_true rfl) (Nat.le_of_ble_eq_true rfl) (fun u hu => ?_)
  obtain ⟨v21, m21, a21⟩ := u
  have T21 := tx_num T20 hu
  clear hu
  obtain ⟨n21, en21⟩ : ∃ z, z = n20 + dgs (trustN G 1) := ⟨_, rfl⟩
  rw [← en21] at T21 ⊢
  have b21 : n21 ≤ 55 := by have := dgs_999 (v := trustN G 1) (by have := trustN_le G 1; omega); omega
  obtain ⟨t21, et21⟩ : ∃ z, z = t20 ++ numL (trustN G 1) := ⟨_, rfl⟩
  rw [← et21] at T21
  refine J_bipush (v := nI 59) hC dL_text_113 rfl ?_
  refine J_callVa hC dL_text_115 wl_L_51 yi_J4_append_cf468 (c_sb_chr _ G p v21 m21 n21 a21 59 (by decide) T21.2.2.1 T21.2.2.2.1 T21.2.2.2.2 (by omega)) rfl rfl 0 13 rfl rfl ⟨Nat.le_of_ble_eq_true rfl, Nat.le_of_ble_eq_true rfl⟩ (Nat.le_of_ble_eq_true rfl) (Nat.le_of_ble_eq_true rfl) (Nat.le_of_ble_eq_true rfl) (fun u hu => ?_)
  obtain ⟨v22, m22, a22⟩ := u
  have T22 := tx_chr T21 hu
  clear hu
  obtain ⟨n22, en22⟩ : ∃ z, z = n21 + 1 := ⟨_, rfl⟩
  rw [← en22] at T22 ⊢
  have b22 : n22 ≤ 56 := by omega
  obtain ⟨t22, et22⟩ : ∃ z, z = t21 ++ [59] := ⟨_, rfl⟩
  rw [← et22] at T22
  refine J_pop hC dL_text_118 rfl ?_
  refine J_iinc hC [(2, .int 2), (1, .ref p), (0, .ref (G.2.2.1 14))] dL_text_119 0 rfl (by decide +kernel) (by decide) rfl ?_
  refine J_goto (tgt := 68) hC dL_text_122 (by decide) ?_
  refine J_iload_n hC dL_text_68 0 rfl rfl ?_
  refine J_iconst (v := 3) hC dL_text_69 rfl ?_
  refine J_ic_ge (tgt := 125) hC dL_text_70 (by decide) (fun c => absurd c (by decide)) (fun _ => ?_)
  refine J_aload_n hC dL_text_73 1 rfl rfl ?_
  refine J_ldcS (i := 11) hC (by decide) rfl rfl dL_text_74 ?_
  refine J_callVa hC dL_text_76 wl_L_59 yi_J4_append_15ec4 (c_sb_str _ G p v22 m22 n22 a22 (10 + 1) (by decide) T22.2.2.1 T22.2.2.2.1 T22.2.2.2.2 (by have := (by decide : SKn.getD (10 + 1) 0 = 8); omega)) rfl rfl 0 13 rfl rfl ⟨Nat.le_of_ble_eq_true rfl, Nat.le_of_ble_eq_true rfl⟩ (Nat.le_of_ble_eq_true rfl) (Nat.le_of_ble_eq_true rfl) (Nat.le_of_ble_eq_true rfl) (fun u hu => ?_)
  obtain ⟨v23, m23, a23⟩ := u
  have T23 := tx_str 1 (by decide) T22 hu
  clear hu
  obtain ⟨n23, en23⟩ : ∃ z, z = n22 + SKn.getD (10 + 1) 0 := ⟨_, rfl⟩
  rw [← en23] at T23 ⊢
  have b23 : n23 ≤ 64 := by have := (by decide : SKn.getD (10 + 1) 0 = 8); omega
  obtain ⟨t23, et23⟩ : ∃ z, z = t22 ++ kL (10 + 1) := ⟨_, rfl⟩
  rw [← et23] at T23
  refine J_bipush (v := nI 97) hC dL_text_79 rfl ?_
  refine J_iload_n hC dL_text_81 0 rfl rfl ?_
  refine J_iadd (v := nI (97 + 2)) hC dL_text_82 (by decide +kernel) ?_
  refine J_i2c (v := nI (97 + 2)) hC dL_text_83 (i2c_s (n := 97 + 2) (by decide)) ?_
  refine J_callVa hC dL_text_84 wl_L_51 yi_J4_append_cf468 (c_sb_chr _ G p v23 m23 n23 a23 (97 + 2) (by decide) T23.2.2.1 T23.2.2.2.1 T23.2.2.2.2 (by omega)) rfl rfl 0 13 rfl rfl ⟨Nat.le_of_ble_eq_true rfl, Nat.le_of_ble_eq_true rfl⟩ (Nat.le_of_ble_eq_true rfl) (Nat.le_of_ble_eq_true rfl) (Nat.le_of_ble_eq_true rfl) (fun u hu => ?_)
  obtain ⟨v24, m24, a24⟩ := u
  have T24 := tx_chr T23 hu
  clear hu
  obtain ⟨n24, en24⟩ : ∃ z, z = n23 + 1 := ⟨_, rfl⟩
  rw [← en24] at T24 ⊢
  have b24 : n24 ≤ 65 := by omega
  obtain ⟨t24, et24⟩ : ∃ z, z = t23 ++ [97 + 2] := ⟨_, rfl⟩
  rw [← et24] at T24
  refine J_bipush (v := nI 32) hC dL_text_87 rfl ?_
  refine J_callVa hC dL_text_89 wl_L_51 yi_J4_append_cf468 (c_sb_chr _ G p v24 m24 n24 a24 32 (by decide) T24.2.2.1 T24.2.2.2.1 T24.2.2.2.2 (by omega)) rfl rfl 0 13 rfl rfl ⟨Nat.le_of_ble_eq_true rfl, Nat.le_of_ble_eq_true rfl⟩ (Nat.le_of_ble_eq_true rfl) (Nat.le_of_ble_eq_true rfl) (Nat.le_of_ble_eq_true rfl) (fun u hu => ?_)
  obtain ⟨v25, m25, a25⟩ := u
  have T25 := tx_chr T24 hu
  clear hu
  obtain ⟨n25, en25⟩ : ∃ z, z = n24 + 1 := ⟨_, rfl⟩
  rw [← en25] at T25 ⊢
  have b25 : n25 ≤ 66 := by omega
  obtain ⟨t25, et25⟩ : ∃ z, z = t24 ++ [32] := ⟨_, rfl⟩
  rw [← et25] at T25
  refine J_aload_n hC dL_text_92 2 rfl rfl ?_
  refine J_iload_n hC dL_text_93 0 rfl rfl ?_
  refine J_callSi hC dL_text_94 wl_L_62 wi_L yi_L_people (c_L_people _ G (sbW G p v25 m25 n25 a25) hb 2 (by decide)) rfl rfl ⟨Nat.le_of_ble_eq_true rfl, Nat.le_of_ble_eq_true rfl⟩ (Nat.le_of_ble_eq_true rfl) (Nat.le_of_ble_eq_true rfl) (Nat.le_of_ble_eq_true rfl) (fun r9 u9 h9 => ?_)
  subst h9
  refine J_callVa hC dL_text_97 wl_L_47 yi_J4_append_bf812 (c_sb_num _ G p v25 m25 n25 a25 (peopleN G 2) (by have := peopleN_le G 2; omega) T25.2.2.1 T25.2.2.2.1 T25.2.2.2.2 (by have := dgs_99 (peopleN_le G 2); omega)) rfl rfl 0 13 rfl rfl ⟨Nat.le_of_ble_eq_true rfl, Nat.le_of_ble_eq_true rfl⟩ (Nat.le_of_ble_eq_true rfl) (Nat.le_of_ble_eq_true rfl) (Nat.le_of_ble_eq_true rfl) (fun u hu => ?_)
  obtain ⟨v26, m26, a26⟩ := u
  have T26 := tx_num T25 hu
  clear hu
  obtain ⟨n26, en26⟩ : ∃ z, z = n25 + dgs (peopleN G 2) := ⟨_, rfl⟩
  rw [← en26] at T26 ⊢
  have b26 : n26 ≤ 68 := by have := dgs_99 (peopleN_le G 2); omega
  obtain ⟨t26, et26⟩ : ∃ z, z = t25 ++ numL (peopleN G 2) := ⟨_, rfl⟩
  rw [← et26] at T26
  refine J_bipush (v := nI 32) hC dL_text_100 rfl ?_
  refine J_callVa hC dL_text_102 wl_L_51 yi_J4_append_cf468 (c_sb_chr _ G p v26 m26 n26 a26 32 (by decide) T26.2.2.1 T26.2.2.2.1 T26.2.2.2.2 (by omega)) rfl rfl 0 13 rfl rfl ⟨Nat.le_of_ble_eq_true rfl, Nat.le_of_ble_eq_true rfl⟩ (Nat.le_of_ble_eq_true rfl) (Nat.le_of_ble_eq_true rfl) (Nat.le_of_ble_eq_true rfl) (fun u hu => ?_)
  obtain ⟨v27, m27, a27⟩ := u
  have T27 := tx_chr T26 hu
  clear hu
  obtain ⟨n27, en27⟩ : ∃ z, z = n26 + 1 := ⟨_, rfl⟩
  rw [← en27] at T27 ⊢
  have b27 : n27 ≤ 69 := by omega
  obtain ⟨t27, et27⟩ : ∃ z, z = t26 ++ [32] := ⟨_, rfl⟩
  rw [← et27] at T27
  refine J_aload_n hC dL_text_105 2 rfl rfl ?_
  refine J_iload_n hC dL_text_106 0 rfl rfl ?_
  refine J_callSi hC dL_text_107 wl_L_65 wi_L yi_L_trust (c_L_trust _ G (sbW G p v27 m27 n27 a27) hb 2 (by decide)) rfl rfl ⟨Nat.le_of_ble_eq_true rfl, Nat.le_of_ble_eq_true rfl⟩ (Nat.le_of_ble_eq_true rfl) (Nat.le_of_ble_eq_true rfl) (Nat.le_of_ble_eq_true rfl) (fun r9 u9 h9 => ?_)
  subst h9
  refine J_callVa hC dL_text_110 wl_L_47 yi_J4_append_bf812 (c_sb_num _ G p v27 m27 n27 a27 (trustN G 2) (by have := trustN_le G 2; omega) T27.2.2.1 T27.2.2.2.1 T27.2.2.2.2 (by have := dgs_999 (v := trustN G 2) (by have := trustN_le G 2; omega); omega)) rfl rfl 0 13 rfl rfl ⟨Nat.le_of_ble_eq_true rfl, Nat.le_of_ble_eq_true rfl⟩ (Nat.le_of_ble_eq_true rfl) (Nat.le_of_ble_eq_true rfl) (Nat.le_of_ble_eq_true rfl) (fun u hu => ?_)
  obtain ⟨v28, m28, a28⟩ := u
  have T28 := tx_num T27 hu
  clear hu
  obtain ⟨n28, en28⟩ : ∃ z, z = n27 + dgs (trustN G 2) := ⟨_, rfl⟩
  rw [← en28] at T28 ⊢
  have b28 : n28 ≤ 72 := by have := dgs_999 (v := trustN G 2) (by have := trustN_le G 2; omega); omega
  obtain ⟨t28, et28⟩ : ∃ z, z = t27 ++ numL (trustN G 2) := ⟨_, rfl⟩
  rw [← et28] at T28
  refine J_bipush (v := nI 59) hC dL_text_113 rfl ?_
  refine J_callVa hC dL_text_115 wl_L_51 yi_J4_append_cf468 (c_sb_chr _ G p v28 m28 n28 a28 59 (by decide) T28.2.2.1 T28.2.2.2.1 T28.2.2.2.2 (by omega)) rfl rfl 0 13 rfl rfl ⟨Nat.le_of_ble_eq_true rfl, Nat.le_of_ble_eq_true rfl⟩ (Nat.le_of_ble_eq_true rfl) (Nat.le_of_ble_eq_true rfl) (Nat.le_of_ble_eq_true rfl) (fun u hu => ?_)
  obtain ⟨v29, m29, a29⟩ := u
  have T29 := tx_chr T28 hu
  clear hu
  obtain ⟨n29, en29⟩ : ∃ z, z = n28 + 1 := ⟨_, rfl⟩
  rw [← en29] at T29 ⊢
  have b29 : n29 ≤ 73 := by omega
  obtain ⟨t29, et29⟩ : ∃ z, z = t28 ++ [59] := ⟨_, rfl⟩
  rw [← et29] at T29
  refine J_pop hC dL_text_118 rfl ?_
  refine J_iinc hC [(2, .int 3), (1, .ref p), (0, .ref (G.2.2.1 14))] dL_text_119 0 rfl (by decide +kernel) (by decide) rfl ?_
  refine J_goto (tgt := 68) hC dL_text_122 (by decide) ?_
  refine J_iload_n hC dL_text_68 0 rfl rfl ?_
  refine J_iconst (v := 3) hC dL_text_69 rfl ?_
  refine J_ic_ge (tgt := 125) hC dL_text_70 (by decide) (fun _ => ?_) (fun c => absurd (by decide) c)
  refine J_iconst (v := 0) hC dL_text_125 rfl ?_
  refine J_istore_n hC [(2, .int 0), (1, .ref p), (0, .ref (G.2.2.1 14))] dL_text_126 rfl (by decide) rfl ?_
  refine J_iload_n hC dL_text_127 0 rfl rfl ?_
  refine J_iconst (v := 2) hC dL_text_128 rfl ?_
  refine J_ic_ge (tgt := 214) hC dL_text_129 (by decide) (fun c => absurd c (by decide)) (fun _ => ?_)
  refine J_aload_n hC dL_text_132 1 rfl rfl ?_
  refine J_ldcS (i := 12) hC (by decide) rfl rfl dL_text_133 ?_
  refine J_callVa hC dL_text_135 wl_L_59 yi_J4_append_15ec4 (c_sb_str _ G p v29 m29 n29 a29 (10 + 2) (by decide) T29.2.2.1 T29.2.2.2.1 T29.2.2.2.2 (by have := (by decide : SKn.getD (10 + 2) 0 = 5); omega)) rfl rfl 0 13 rfl rfl ⟨Nat.le_of_ble_eq_true rfl, Nat.le_of_ble_eq_true rfl⟩ (Nat.le_of_ble_eq_true rfl) (Nat.le_of_ble_eq_true rfl) (Nat.le_of_ble_eq_true rfl) (fun u hu => ?_)
  obtain ⟨v30, m30, a30⟩ := u
  have T30 := tx_str 2 (by decide) T29 hu
  clear hu
  obtain ⟨n30, en30⟩ : ∃ z, z = n29 + SKn.getD (10 + 2) 0 := ⟨_, rfl⟩
  rw [← en30] at T30 ⊢
  have b30 : n30 ≤ 78 := by have := (by decide : SKn.getD (10 + 2) 0 = 5); omega
  obtain ⟨t30, et30⟩ : ∃ z, z = t29 ++ kL (10 + 2) := ⟨_, rfl⟩
  rw [← et30] at T30
  refine J_bipush (v := nI 112) hC dL_text_138 rfl ?_
  refine J_iload_n hC dL_text_140 0 rfl rfl ?_
  refine J_iadd (v := nI (112 + 0)) hC dL_text_141 (by decide +kernel) ?_
  refine J_i2c (v := nI (112 + 0)) hC dL_text_142 (i2c_s (n := 112 + 0) (by decide)) ?_
  refine J_callVa hC dL_text_143 wl_L_51 yi_J4_append_cf468 (c_sb_chr _ G p v30 m30 n30 a30 (112 + 0) (by decide) T30.2.2.1 T30.2.2.2.1 T30.2.2.2.2 (by omega)) rfl rfl 0 13 rfl rfl ⟨Nat.le_of_ble_eq_true rfl, Nat.le_of_ble_eq_true rfl⟩ (Nat.le_of_ble_eq_true rfl) (Nat.le_of_ble_eq_true rfl) (Nat.le_of_ble_eq_true rfl) (fun u hu => ?_)
  obtain ⟨v31, m31, a31⟩ := u
  have T31 := tx_chr T30 hu
  clear hu
  obtain ⟨n31, en31⟩ : ∃ z, z = n30 + 1 := ⟨_, rfl⟩
  rw [← en31] at T31 ⊢
  have b31 : n31 ≤ 79 := by omega
  obtain ⟨t31, et31⟩ : ∃ z, z = t30 ++ [112 + 0] := ⟨_, rfl⟩
  rw [← et31] at T31
  refine J_bipush (v := nI 32) hC dL_text_146 rfl ?_
  refine J_callVa hC dL_text_148 wl_L_51 yi_J4_append_cf468 (c_sb_chr _ G p v31 m31 n31 a31 32 (by decide) T31.2.2.1 T31.2.2.2.1 T31.2.2.2.2 (by omega)) rfl rfl 0 13 rfl rfl ⟨Nat.le_of_ble_eq_true rfl, Nat.le_of_ble_eq_true rfl⟩ (Nat.le_of_ble_eq_true rfl) (Nat.le_of_ble_eq_true rfl) (Nat.le_of_ble_eq_true rfl) (fun u hu => ?_)
  obtain ⟨v32, m32, a32⟩ := u
  have T32 := tx_chr T31 hu
  clear hu
  obtain ⟨n32, en32⟩ : ∃ z, z = n31 + 1 := ⟨_, rfl⟩
  rw [← en32] at T32 ⊢
  have b32 : n32 ≤ 80 := by omega
  obtain ⟨t32, et32⟩ : ∃ z, z = t31 ++ [32] := ⟨_, rfl⟩
  rw [← et32] at T32
  refine J_bipush (v := nI 97) hC dL_text_151 rfl ?_
  refine J_aload_n hC dL_text_153 2 rfl rfl ?_
  refine J_iload_n hC dL_text_154 0 rfl rfl ?_
  refine J_callSi hC dL_text_155 wl_L_70 wi_L yi_L_place (c_L_place _ G (sbW G p v32 m32 n32 a32) hb 0 (by decide)) rfl rfl ⟨Nat.le_of_ble_eq_true rfl, Nat.le_of_ble_eq_true rfl⟩ (Nat.le_of_ble_eq_true rfl) (Nat.le_of_ble_eq_true rfl) (Nat.le_of_ble_eq_true rfl) (fun r9 u9 h9 => ?_)
  subst h9
  refine J_iadd (v := nI (97 + placeN G 0)) hC dL_text_158 (nI_add 97 (placeN G 0)) ?_
  refine J_i2c (v := nI (97 + placeN G 0)) hC dL_text_159 (i2c_s (by have := placeN_le G 0; omega)) ?_
  refine J_callVa hC dL_text_160 wl_L_51 yi_J4_append_cf468 (c_sb_chr _ G p v32 m32 n32 a32 (97 + placeN G 0) (by have := placeN_le G 0; omega) T32.2.2.1 T32.2.2.2.1 T32.2.2.2.2 (by omega)) rfl rfl 0 13 rfl rfl ⟨Nat.le_of_ble_eq_true rfl, Nat.le_of_ble_eq_true rfl⟩ (Nat.le_of_ble_eq_true rfl) (Nat.le_of_ble_eq_true rfl) (Nat.le_of_ble_eq_true rfl) (fun u hu => ?_)
  obtain ⟨v33, m33, a33⟩ := u
  have T33 := tx_chr T32 hu
  clear hu
  obtain ⟨n33, en33⟩ : ∃ z, z = n32 + 1 := ⟨_, rfl⟩
  rw [← en33] at T33 ⊢
  have b33 : n33 ≤ 81 := by omega
  obtain ⟨t33, et33⟩ : ∃ z, z = t32 ++ [97 + placeN G 0] := ⟨_, rfl⟩
  rw [← et33] at T33
  refine J_bipush (v := nI 32) hC dL_text_163 rfl ?_
  refine J_callVa hC dL_text_165 wl_L_51 yi_J4_append_cf468 (c_sb_chr _ G p v33 m33 n33 a33 32 (by decide) T33.2.2.1 T33.2.2.2.1 T33.2.2.2.2 (by omega)) rfl rfl 0 13 rfl rfl ⟨Nat.le_of_ble_eq_true rfl, Nat.le_of_ble_eq_true rfl⟩ (Nat.le_of_ble_eq_true rfl) (Nat.le_of_ble_eq_true rfl) (Nat.le_of_ble_eq_true rfl) (fun u hu => ?_)
  obtain ⟨v34, m34, a34⟩ := u
  have T34 := tx_chr T33 hu
  clear hu
  obtain ⟨n34, en34⟩ : ∃ z, z = n33 + 1 := ⟨_, rfl⟩
  rw [← en34] at T34 ⊢
  have b34 : n34 ≤ 82 := by omega
  obtain ⟨t34, et34⟩ : ∃ z, z = t33 ++ [32] := ⟨_, rfl⟩
  rw [← et34] at T34
  refine J_aload_n hC dL_text_168 2 rfl rfl ?_
  refine J_iload_n hC dL_text_169 0 rfl rfl ?_
  refine J_callSi hC dL_text_170 wl_L_73 wi_L yi_L_period (c_L_period _ G (sbW G p v34 m34 n34 a34) hb 0 (by decide)) rfl rfl ⟨Nat.le_of_ble_eq_true rfl, Nat.le_of_ble_eq_true rfl⟩ (Nat.le_of_ble_eq_true rfl) (Nat.le_of_ble_eq_true rfl) (Nat.le_of_ble_eq_true rfl) (fun r9 u9 h9 => ?_)
  subst h9
  refine J_callVa hC dL_text_173 wl_L_47 yi_J4_append_bf812 (c_sb_num _ G p v34 m34 n34 a34 (periodN G 0) (by have := periodN_le G 0; omega) T34.2.2.1 T34.2.2.2.1 T34.2.2.2.2 (by have := dgs_99 (v := periodN G 0) (by have := periodN_le G 0; omega); omega)) rfl rfl 0 13 rfl rfl ⟨Nat.le_of_ble_eq_true rfl, Nat.le_of_ble_eq_true rfl⟩ (Nat.le_of_ble_eq_true rfl) (Nat.le_of_ble_eq_true rfl) (Nat.le_of_ble_eq_true rfl) (fun u hu => ?_)
  obtain ⟨v35, m35, a35⟩ := u
  have T35 := tx_num T34 hu
  clear hu
  obtain ⟨n35, en35⟩ : ∃ z, z = n34 + dgs (periodN G 0) := ⟨_, rfl⟩
  rw [← en35] at T35 ⊢
  have b35 : n35 ≤ 84 := by have := dgs_99 (v := periodN G 0) (by have := periodN_le G 0; omega); omega
  obtain ⟨t35, et35⟩ : ∃ z, z = t34 ++ numL (periodN G 0) := ⟨_, rfl⟩
  rw [← et35] at T35
  refine J_bipush (v := nI 32) hC dL_text_176 rfl ?_
  refine J_callVa hC dL_text_178 wl_L_51 yi_J4_append_cf468 (c_sb_chr _ G p v35 m35 n35 a35 32 (by decide) T35.2.2.1 T35.2.2.2.1 T35.2.2.2.2 (by omega)) rfl rfl 0 13 rfl rfl ⟨Nat.le_of_ble_eq_true rfl, Nat.le_of_ble_eq_true rfl⟩ (Nat.le_of_ble_eq_true rfl) (Nat.le_of_ble_eq_true rfl) (Nat.le_of_ble_eq_true rfl) (fun u hu => ?_)
  obtain ⟨v36, m36, a36⟩ := u
  have T36 := tx_chr T35 hu
  clear hu
  obtain ⟨n36, en36⟩ : ∃ z, z = n35 + 1 := ⟨_, rfl⟩
  rw [← en36] at T36 ⊢
  have b36 : n36 ≤ 85 := by omega
  obtain ⟨t36, et36⟩ : ∃ z, z = t35 ++ [32] := ⟨_, rfl⟩
  rw [← et36] at T36
  refine J_aload_n hC dL_text_181 2 rfl rfl ?_
  refine J_iload_n hC dL_text_182 0 rfl rfl ?_
  refine J_callSi hC dL_text_183 wl_L_76 wi_L yi_L_stock (c_L_stock _ G (sbW G p v36 m36 n36 a36) hb 0 (by decide)) rfl rfl ⟨Nat.le_of_ble_eq_true rfl, Nat.le_of_ble_eq_true rfl⟩ (Nat.le_of_ble_eq_true rfl) (Nat.le_of_ble_eq_true rfl) (Nat.le_of_ble_eq_true rfl) (fun r9 u9 h9 => ?_)
  subst h9
  refine J_callVa hC dL_text_186 wl_L_47 yi_J4_append_bf812 (c_sb_num _ G p v36 m36 n36 a36 (stockN G 0) (by have := stockN_le G 0; omega) T36.2.2.1 T36.2.2.2.1 T36.2.2.2.2 (by have := dgs_99 (v := stockN G 0) (by have := stockN_le G 0; omega); omega)) rfl rfl 0 13 rfl rfl ⟨Nat.le_of_ble_eq_true rfl, Nat.le_of_ble_eq_true rfl⟩ (Nat.le_of_ble_eq_true rfl) (Nat.le_of_ble_eq_true rfl) (Nat.le_of_ble_eq_true rfl) (fun u hu => ?_)
  obtain ⟨v37, m37, a37⟩ := u
  have T37 := tx_num T36 hu
  clear hu
  obtain ⟨n37, en37⟩ : ∃ z, z = n36 + dgs (stockN G 0) := ⟨_, rfl⟩
  rw [← en37] at T37 ⊢
  have b37 : n37 ≤ 87 := by have := dgs_99 (v := stockN G 0) (by have := stockN_le G 0; omega); omega
  obtain ⟨t37, et37⟩ : ∃ z, z = t36 ++ numL (stockN G 0) := ⟨_, rfl⟩
  rw [← et37] at T37
  refine J_bipush (v := nI 32) hC dL_text_189 rfl ?_
  refine J_callVa hC dL_text_191 wl_L_51 yi_J4_append_cf468 (c_sb_chr _ G p v37 m37 n37 a37 32 (by decide) T37.2.2.1 T37.2.2.2.1 T37.2.2.2.2 (by omega)) rfl rfl 0 13 rfl rfl ⟨Nat.le_of_ble_eq_true rfl, Nat.le_of_ble_eq_true rfl⟩ (Nat.le_of_ble_eq_true rfl) (Nat.le_of_ble_eq_true rfl) (Nat.le_of_ble_eq_true rfl) (fun u hu => ?_)
  obtain ⟨v38, m38, a38⟩ := u
  have T38 := tx_chr T37 hu
  clear hu
  obtain ⟨n38, en38⟩ : ∃ z, z = n37 + 1 := ⟨_, rfl⟩
  rw [← en38] at T38 ⊢
  have b38 : n38 ≤ 88 := by omega
  obtain ⟨t38, et38⟩ : ∃ z, z = t37 ++ [32] := ⟨_, rfl⟩
  rw [← et38] at T38
  refine J_aload_n hC dL_text_194 2 rfl rfl ?_
  refine J_iload_n hC dL_text_195 0 rfl rfl ?_
  refine J_callSi hC dL_text_196 wl_L_79 wi_L yi_L_price (c_L_price _ G (sbW G p v38 m38 n38 a38) hb 0 (by decide)) rfl rfl ⟨Nat.le_of_ble_eq_true rfl, Nat.le_of_ble_eq_true rfl⟩ (Nat.le_of_ble_eq_true rfl) (Nat.le_of_ble_eq_true rfl) (Nat.le_of_ble_eq_true rfl) (fun r9 u9 h9 => ?_)
  subst h9
  refine J_callVa hC dL_text_199 wl_L_47 yi_J4_append_bf812 (c_sb_num _ G p v38 m38 n38 a38 (priceN G 0) (by have := priceN_le G 0; omega) T38.2.2.1 T38.2.2.2.1 T38.2.2.2.2 (by have := dgs_99 (v := priceN G 0) (by have := priceN_le G 0; omega); omega)) rfl rfl 0 13 rfl rfl ⟨Nat.le_of_ble_eq_true rfl, Nat.le_of_ble_eq_true rfl⟩ (Nat.le_of_ble_eq_true rfl) (Nat.le_of_ble_eq_true rfl) (Nat.le_of_ble_eq_true rfl) (fun u hu => ?_)
  obtain ⟨v39, m39, a39⟩ := u
  have T39 := tx_num T38 hu
  clear hu
  obtain ⟨n39, en39⟩ : ∃ z, z = n38 + dgs (priceN G 0) := ⟨_, rfl⟩
  rw [← en39] at T39 ⊢
  have b39 : n39 ≤ 90 := by have := dgs_99 (v := priceN G 0) (by have := priceN_le G 0; omega); omega
  obtain ⟨t39, et39⟩ : ∃ z, z = t38 ++ numL (priceN G 0) := ⟨_, rfl⟩
  rw [← et39] at T39
  refine J_bipush (v := nI 59) hC dL_text_202 rfl ?_
  refine J_callVa hC dL_text_204 wl_L_51 yi_J4_append_cf468 (c_sb_chr _ G p v39 m39 n39 a39 59 (by decide) T39.2.2.1 T39.2.2.2.1 T39.2.2.2.2 (by omega)) rfl rfl 0 13 rfl rfl ⟨Nat.le_of_ble_eq_true rfl, Nat.le_of_ble_eq_true rfl⟩ (Nat.le_of_ble_eq_true rfl) (Nat.le_of_ble_eq_true rfl) (Nat.le_of_ble_eq_true rfl) (fun u hu => ?_)
  obtain ⟨v40, m40, a40⟩ := u
  have T40 := tx_chr T39 hu
  clear hu
  obtain ⟨n40, en40⟩ : ∃ z, z = n39 + 1 := ⟨_, rfl⟩
  rw [← en40] at T40 ⊢
  have b40 : n40 ≤ 91 := by omega
  obtain ⟨t40, et40⟩ : ∃ z, z = t39 ++ [59] := ⟨_, rfl⟩
  rw [← et40] at T40
  refine J_pop hC dL_text_207 rfl ?_
  refine J_iinc hC [(2, .int 1), (1, .ref p), (0, .ref (G.2.2.1 14))] dL_text_208 0 rfl (by decide +kernel) (by decide) rfl ?_
  refine J_goto (tgt := 127) hC dL_text_211 (by decide) ?_
  refine J_iload_n hC dL_text_127 0 rfl rfl ?_
  refine J_iconst (v := 2) hC dL_text_128 rfl ?_
  refine J_ic_ge (tgt := 214) hC dL_text_129 (by decide) (fun c => absurd c (by decide)) (fun _ => ?_)
  refine J_aload_n hC dL_text_132 1 rfl rfl ?_
  refine J_ldcS (i := 12) hC (by decide) rfl rfl dL_text_133 ?_
  refine J_callVa hC dL_text_135 wl_L_59 yi_J4_append_15ec4 (c_sb_str _ G p v40 m40 n40 a40 (10 + 2) (by decide) T40.2.2.1 T40.2.2.2.1 T40.2.2.2.2 (by have := (by decide : SKn.getD (10 + 2) 0 = 5); omega)) rfl rfl 0 13 rfl rfl ⟨Nat.le_of_ble_eq_true rfl, Nat.le_of_ble_eq_true rfl⟩ (Nat.le_of_ble_eq_true rfl) (Nat.le_of_ble_eq_true rfl) (Nat.le_of_ble_eq_true rfl) (fun u hu => ?_)
  obtain ⟨v41, m41, a41⟩ := u
  have T41 := tx_str 2 (by decide) T40 hu
  clear hu
  obtain ⟨n41, en41⟩ : ∃ z, z = n40 + SKn.getD (10 + 2) 0 := ⟨_, rfl⟩
  rw [← en41] at T41 ⊢
  have b41 : n41 ≤ 96 := by have := (by decide : SKn.getD (10 + 2) 0 = 5); omega
  obtain ⟨t41, et41⟩ : ∃ z, z = t40 ++ kL (10 + 2) := ⟨_, rfl⟩
  rw [← et41] at T41
  refine J_bipush (v := nI 112) hC dL_text_138 rfl ?_
  refine J_iload_n hC dL_text_140 0 rfl rfl ?_
  refine J_iadd (v := nI (112 + 1)) hC dL_text_141 (by decide +kernel) ?_
  refine J_i2c (v := nI (112 + 1)) hC dL_text_142 (i2c_s (n := 112 + 1) (by decide)) ?_
  refine J_callVa hC dL_text_143 wl_L_51 yi_J4_append_cf468 (c_sb_chr _ G p v41 m41 n41 a41 (112 + 1) (by decide) T41.2.2.1 T41.2.2.2.1 T41.2.2.2.2 (by omega)) rfl rfl 0 13 rfl rfl ⟨Nat.le_of_ble_eq_true rfl, Nat.le_of_ble_eq_true rfl⟩ (Nat.le_of_ble_eq_true rfl) (Nat.le_of_ble_eq_true rfl) (Nat.le_of_ble_eq_true rfl) (fun u hu => ?_)
  obtain ⟨v42, m42, a42⟩ := u
  have T42 := tx_chr T41 hu
  clear hu
  obtain ⟨n42, en42⟩ : ∃ z, z = n41 + 1 := ⟨_, rfl⟩
  rw [← en42] at T42 ⊢
  have b42 : n42 ≤ 97 := by omega
  obtain ⟨t42, et42⟩ : ∃ z, z = t41 ++ [112 + 1] := ⟨_, rfl⟩
  rw [← et42] at T42
  refine J_bipush (v := nI 32) hC dL_text_146 rfl ?_
  refine J_callVa hC dL_text_148 wl_L_51 yi_J4_append_cf468 (c_sb_chr _ G p v42 m42 n42 a42 32 (by decide) T42.2.2.1 T42.2.2.2.1 T42.2.2.2.2 (by omega)) rfl rfl 0 13 rfl rfl ⟨Nat.le_of_ble_eq_true rfl, Nat.le_of_ble_eq_true rfl⟩ (Nat.le_of_ble_eq_true rfl) (Nat.le_of_ble_eq_true rfl) (Nat.le_of_ble_eq_true rfl) (fun u hu => ?_)
  obtain ⟨v43, m43, a43⟩ := u
  have T43 := tx_chr T42 hu
  clear hu
  obtain ⟨n43, en43⟩ : ∃ z, z = n42 + 1 := ⟨_, rfl⟩
  rw [← en43] at T43 ⊢
  have b43 : n43 ≤ 98 := by omega
  obtain ⟨t43, et43⟩ : ∃ z, z = t42 ++ [32] := ⟨_, rfl⟩
  rw [← et43] at T43
  refine J_bipush (v := nI 97) hC dL_text_151 rfl ?_
  refine J_aload_n hC dL_text_153 2 rfl rfl ?_
  refine J_iload_n hC dL_text_154 0 rfl rfl ?_
  refine J_callSi hC dL_text_155 wl_L_70 wi_L yi_L_place (c_L_place _ G (sbW G p v43 m43 n43 a43) hb 1 (by decide)) rfl rfl ⟨Nat.le_of_ble_eq_true rfl, Nat.le_of_ble_eq_true rfl⟩ (Nat.le_of_ble_eq_true rfl) (Nat.le_of_ble_eq_true rfl) (Nat.le_of_ble_eq_true rfl) (fun r9 u9 h9 => ?_)
  subst h9
  refine J_iadd (v := nI (97 + placeN G 1)) hC dL_text_158 (nI_add 97 (placeN G 1)) ?_
  refine J_i2c (v := nI (97 + placeN G 1)) hC dL_text_159 (i2c_s (by have := placeN_le G 1; omega)) ?_
  refine J_callVa hC dL_text_160 wl_L_51 yi_J4_append_cf468 (c_sb_chr _ G p v43 m43 n43 a43 (97 + placeN G 1) (by have := placeN_le G 1; omega) T43.2.2.1 T43.2.2.2.1 T43.2.2.2.2 (by omega)) rfl rfl 0 13 rfl rfl ⟨Nat.le_of_ble_eq_true rfl, Nat.le_of_ble_eq_true rfl⟩ (Nat.le_of_ble_eq_true rfl) (Nat.le_of_ble_eq_true rfl) (Nat.le_of_ble_eq_true rfl) (fun u hu => ?_)
  obtain ⟨v44, m44, a44⟩ := u
  have T44 := tx_chr T43 hu
  clear hu
  obtain ⟨n44, en44⟩ : ∃ z, z = n43 + 1 := ⟨_, rfl⟩
  rw [← en44] at T44 ⊢
  have b44 : n44 ≤ 99 := by omega
  obtain ⟨t44, et44⟩ : ∃ z, z = t43 ++ [97 + placeN G 1] := ⟨_, rfl⟩
  rw [← et44] at T44
  refine J_bipush (v := nI 32) hC dL_text_163 rfl ?_
  refine J_callVa hC dL_text_165 wl_L_51 yi_J4_append_cf468 (c_sb_chr _ G p v44 m44 n44 a44 32 (by decide) T44.2.2.1 T44.2.2.2.1 T44.2.2.2.2 (by omega)) rfl rfl 0 13 rfl rfl ⟨Nat.le_of_ble_eq_true rfl, Nat.le_of_ble_eq_true rfl⟩ (Nat.le_of_ble_eq_true rfl) (Nat.le_of_ble_eq_true rfl) (Nat.le_of_ble_eq_true rfl) (fun u hu => ?_)
  obtain ⟨v45, m45, a45⟩ := u
  have T45 := tx_chr T44 hu
  clear hu
  obtain ⟨n45, en45⟩ : ∃ z, z = n44 + 1 := ⟨_, rfl⟩
  rw [← en45] at T45 ⊢
  have b45 : n45 ≤ 100 := by omega
  obtain ⟨t45, et45⟩ : ∃ z, z = t44 ++ [32] := ⟨_, rfl⟩
  rw [← et45] at T45
  refine J_aload_n hC dL_text_168 2 rfl rfl ?_
  refine J_iload_n hC dL_text_169 0 rfl rfl ?_
  refine J_callSi hC dL_text_170 wl_L_73 wi_L yi_L_period (c_L_period _ G (sbW G p v45 m45 n45 a45) hb 1 (by decide)) rfl rfl ⟨Nat.le_of_ble_eq_true rfl, Nat.le_of_ble_eq_true rfl⟩ (Nat.le_of_ble_eq_true rfl) (Nat.le_of_ble_eq_true rfl) (Nat.le_of_ble_eq_true rfl) (fun r9 u9 h9 => ?_)
  subst h9
  refine J_callVa hC dL_text_173 wl_L_47 yi_J4_append_bf812 (c_sb_num _ G p v45 m45 n45 a45 (periodN G 1) (by have := periodN_le G 1; omega) T45.2.2.1 T45.2.2.2.1 T45.2.2.2.2 (by have := dgs_99 (v := periodN G 1) (by have := periodN_le G 1; omega); omega)) rfl rfl 0 13 rfl rfl ⟨Nat.le_of_ble_eq_true rfl, Nat.le_of_ble_eq_true rfl⟩ (Nat.le_of_ble_eq_true rfl) (Nat.le_of_ble_eq_true rfl) (Nat.le_of_ble_eq_true rfl) (fun u hu => ?_)
  obtain ⟨v46, m46, a46⟩ := u
  have T46 := tx_num T45 hu
  clear hu
  obtain ⟨n46, en46⟩ : ∃ z, z = n45 + dgs (periodN G 1) := ⟨_, rfl⟩
  rw [← en46] at T46 ⊢
  have b46 : n46 ≤ 102 := by have := dgs_99 (v := periodN G 1) (by have := periodN_le G 1; omega); omega
  obtain ⟨t46, et46⟩ : ∃ z, z = t45 ++ numL (periodN G 1) := ⟨_, rfl⟩
  rw [← et46] at T46
  refine J_bipush (v := nI 32) hC dL_text_176 rfl ?_
  refine J_callVa hC dL_text_178 wl_L_51 yi_J4_append_cf468 (c_sb_chr _ G p v46 m46 n46 a46 32 (by decide) T46.2.2.1 T46.2.2.2.1 T46.2.2.2.2 (by omega)) rfl rfl 0 13 rfl rfl ⟨Nat.le_of_ble_eq_true rfl, Nat.le_of_ble_eq_true rfl⟩ (Nat.le_of_ble_eq_true rfl) (Nat.le_of_ble_eq_true rfl) (Nat.le_of_ble_eq_true rfl) (fun u hu => ?_)
  obtain ⟨v47, m47, a47⟩ := u
  have T47 := tx_chr T46 hu
  clear hu
  obtain ⟨n47, en47⟩ : ∃ z, z = n46 + 1 := ⟨_, rfl⟩
  rw [← en47] at T47 ⊢
  have b47 : n47 ≤ 103 := by omega
  obtain ⟨t47, et47⟩ : ∃ z, z = t46 ++ [32] := ⟨_, rfl⟩
  rw [← et47] at T47
  refine J_aload_n hC dL_text_181 2 rfl rfl ?_
  refine J_iload_n hC dL_text_182 0 rfl rfl ?_
  refine J_callSi hC dL_text_183 wl_L_76 wi_L yi_L_stock (c_L_stock _ G (sbW G p v47 m47 n47 a47) hb 1 (by decide)) rfl rfl ⟨Nat.le_of_ble_eq_true rfl, Nat.le_of_ble_eq_true rfl⟩ (Nat.le_of_ble_eq_true rfl) (Nat.le_of_ble_eq_true rfl) (Nat.le_of_ble_eq_true rfl) (fun r9 u9 h9 => ?_)
  subst h9
  refine J_callVa hC dL_text_186 wl_L_47 yi_J4_append_bf812 (c_sb_num _ G p v47 m47 n47 a47 (stockN G 1) (by have := stockN_le G 1; omega) T47.2.2.1 T47.2.2.2.1 T47.2.2.2.2 (by have := dgs_99 (v := stockN G 1) (by have := stockN_le G 1; omega); omega)) rfl rfl 0 13 rfl rfl ⟨Nat.le_of_ble_eq_true rfl, Nat.le_of_ble_eq_true rfl⟩ (Nat.le_of_ble_eq_true rfl) (Nat.le_of_ble_eq_true rfl) (Nat.le_of_ble_eq_true rfl) (fun u hu => ?_)
  obtain ⟨v48, m48, a48⟩ := u
  have T48 := tx_num T47 hu
  clear hu
  obtain ⟨n48, en48⟩ : ∃ z, z = n47 + dgs (stockN G 1) := ⟨_, rfl⟩
  rw [← en48] at T48 ⊢
  have b48 : n48 ≤ 105 := by have := dgs_99 (v := stockN G 1) (by have := stockN_le G 1; omega); omega
  obtain ⟨t48, et48⟩ : ∃ z, z = t47 ++ numL (stockN G 1) := ⟨_, rfl⟩
  rw [← et48] at T48
  refine J_bipush (v := nI 32) hC dL_text_189 rfl ?_
  refine J_callVa hC dL_text_191 wl_L_51 yi_J4_append_cf468 (c_sb_chr _ G p v48 m48 n48 a48 32 (by decide) T48.2.2.1 T48.2.2.2.1 T48.2.2.2.2 (by omega)) rfl rfl 0 13 rfl rfl ⟨Nat.le_of_ble_eq_true rfl, Nat.le_of_ble_eq_true rfl⟩ (Nat.le_of_ble_eq_true rfl) (Nat.le_of_ble_eq_true rfl) (Nat.le_of_ble_eq_true rfl) (fun u hu => ?_)
  obtain ⟨v49, m49, a49⟩ := u
  have T49 := tx_chr T48 hu
  clear hu
  obtain ⟨n49, en49⟩ : ∃ z, z = n48 + 1 := ⟨_, rfl⟩
  rw [← en49] at T49 ⊢
  have b49 : n49 ≤ 106 := by omega
  obtain ⟨t49, et49⟩ : ∃ z, z = t48 ++ [32] := ⟨_, rfl⟩
  rw [← et49] at T49
  refine J_aload_n hC dL_text_194 2 rfl rfl ?_
  refine J_iload_n hC dL_text_195 0 rfl rfl ?_
  refine J_callSi hC dL_text_196 wl_L_79 wi_L yi_L_price (c_L_price _ G (sbW G p v49 m49 n49 a49) hb 1 (by decide)) rfl rfl ⟨Nat.le_of_ble_eq_true rfl, Nat.le_of_ble_eq_true rfl⟩ (Nat.le_of_ble_eq_true rfl) (Nat.le_of_ble_eq_true rfl) (Nat.le_of_ble_eq_true rfl) (fun r9 u9 h9 => ?_)
  subst h9
  refine J_callVa hC dL_text_199 wl_L_47 yi_J4_append_bf812 (c_sb_num _ G p v49 m49 n49 a49 (priceN G 1) (by have := priceN_le G 1; omega) T49.2.2.1 T49.2.2.2.1 T49.2.2.2.2 (by have := dgs_99 (v := priceN G 1) (by have := priceN_le G 1; omega); omega)) rfl rfl 0 13 rfl rfl ⟨Nat.le_of_ble_eq_true rfl, Nat.le_of_ble_eq_true rfl⟩ (Nat.le_of_ble_eq_true rfl) (Nat.le_of_ble_eq_true rfl) (Nat.le_of_ble_eq_true rfl) (fun u hu => ?_)
  obtain ⟨v50, m50, a50⟩ := u
  have T50 := tx_num T49 hu
  clear hu
  obtain ⟨n50, en50⟩ : ∃ z, z = n49 + dgs (priceN G 1) := ⟨_, rfl⟩
  rw [← en50] at T50 ⊢
  have b50 : n50 ≤ 108 := by have := dgs_99 (v := priceN G 1) (by have := priceN_le G 1; omega); omega
  obtain ⟨t50, et50⟩ : ∃ z, z = t49 ++ numL (priceN G 1) := ⟨_, rfl⟩
  rw [← et50] at T50
  refine J_bipush (v := nI 59) hC dL_text_202 rfl ?_
  refine J_callVa hC dL_text_204 wl_L_51 yi_J4_append_cf468 (c_sb_chr _ G p v50 m50 n50 a50 59 (by decide) T50.2.2.1 T50.2.2.2.1 T50.2.2.2.2 (by omega)) rfl rfl 0 13 rfl rfl ⟨Nat.le_of_ble_eq_true rfl, Nat.le_of_ble_eq_true rfl⟩ (Nat.le_of_ble_eq_true rfl) (Nat.le_of_ble_eq_true rfl) (Nat.le_of_ble_eq_true rfl) (fun u hu => ?_)
  obtain ⟨v51, m51, a51⟩ := u
  have T51 := tx_chr T50 hu
  clear hu
  obtain ⟨n51, en51⟩ : ∃ z, z = n50 + 1 := ⟨_, rfl⟩
  rw [← en51] at T51 ⊢
  have b51 : n51 ≤ 109 := by omega
  obtain ⟨t51, et51⟩ : ∃ z, z = t50 ++ [59] := ⟨_, rfl⟩
  rw [← et51] at T51
  refine J_pop hC dL_text_207 rfl ?_
  refine J_iinc hC [(2, .int 2), (1, .ref p), (0, .ref (G.2.2.1 14))] dL_text_208 0 rfl (by decide +kernel) (by decide) rfl ?_
  refine J_goto (tgt := 127) hC dL_text_211 (by decide) ?_
  refine J_iload_n hC dL_text_127 0 rfl rfl ?_
  refine J_iconst (v := 2) hC dL_text_128 rfl ?_
  refine J_ic_ge (tgt := 214) hC dL_text_129 (by decide) (fun _ => ?_) (fun c => absurd (by decide) c)
  refine J_aload_n hC dL_text_214 1 rfl rfl ?_
  refine J_callVa hC dL_text_215 wl_L_82 yi_J4_toString_0e30d (c_sb_toS _ G p v51 m51 n51 a51 T51.2.2.1 T51.2.2.2.1 T51.2.2.2.2) rfl rfl 0 13 rfl rfl ⟨Nat.le_of_ble_eq_true rfl, Nat.le_of_ble_eq_true rfl⟩ (Nat.le_of_ble_eq_true rfl) (Nat.le_of_ble_eq_true rfl) (Nat.le_of_ble_eq_true rfl) (fun u hu => ?_)
  obtain ⟨t, z, a⟩ := u
  refine J_sub (ws' := sgW G t z n51 a) (sbW G p v51 m51 n51 a51) (List.Perm.refl _) ?_
  have et : t51 = textL G := by rw [et51, et50, et49, et48, et47, et46, et45, et44, et43, et42, et41, et40, et39, et38, et37, et36, et35, et34, et33, et32, et31, et30, et29, et28, et27, et26, et25, et24, et23, et22, et21, et20, et19, et18, et17, et16, et15, et14, et13, et12, et11, et10, et9, et8, et7, et6, et5, et4, et3, et2, et1, et0]; rfl
  exact J_aret hC hR dL_text_218 (t, z, n51, a) ⟨by rw [← et]; exact T51.1, fun j hj => (hu.1 j hj).trans (by rw [← et]; exact T51.2.1 j hj), by show n51 ≤ 109; omega⟩ rfl rfl (by decide) (by decide)


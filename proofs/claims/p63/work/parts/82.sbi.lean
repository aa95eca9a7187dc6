/-! APPEND(INT): numbers up to 1023 -/
theorem dgc_lt (v i : Nat) : 48 + v / 10 ^ (dgs v - 1 - i) % 10 < 58 := by omega
theorem dgs_1 {w : Nat} (h : w < 10) : dgs w = 1 := if_pos h
theorem dgs_2 {w : Nat} (h : ¬ w < 10) (h2 : w < 100) : dgs w = 2 := by rw [dgs, if_neg h, if_pos h2]
theorem dgs_100 {v : Nat} (h : 100 ≤ v) (hv : v ≤ 1023) : dgs v = dgs (v / 100) + 2 := by
  unfold dgs
  repeat' split
  all_goals omega
theorem dgc_hi {v i : Nat} (h : 100 ≤ v) (hv : v ≤ 1023) (hi : i < dgs (v / 100)) : dgc v i = dgc (v / 100) i := by
  have e := dgs_100 h hv
  unfold dgc
  rw [show dgs v - 1 - i = 2 + (dgs (v / 100) - 1 - i) by omega, Nat.pow_add, ← Nat.div_div_eq_div_mul]
theorem dgc_m2 {v : Nat} (h : 100 ≤ v) (hv : v ≤ 1023) : dgc v (dgs (v / 100)) = dgT (v % 100) := by
  have e := dgs_100 h hv
  unfold dgc dgT
  rw [show dgs v - 1 - dgs (v / 100) = 1 by omega, Nat.pow_one]
  exact congrArg nI (by omega)
theorem dgc_m1 {v : Nat} (h : 100 ≤ v) (hv : v ≤ 1023) : dgc v (dgs (v / 100) + 1) = dgO (v % 100) := by
  have e := dgs_100 h hv
  unfold dgc dgO
  rw [show dgs v - 1 - (dgs (v / 100) + 1) = 0 by omega, Nat.pow_zero, Nat.div_one]
  exact congrArg nI (by omega)
theorem dgO_lt {w : Nat} : 48 + w % 10 < 128 := by omega
theorem dgT_lt {w : Nat} (h : w < 100) : 48 + w / 10 < 128 := by omega
set_option maxRecDepth 100000 in
theorem c_getCh (l : Launch) (G : gT) (b m n v : Nat) (a : Nat → Int32) (hv : v ≤ 1023) (hq : n + dgs v ≤ m) (hm : m ≤ 300) (hf : sb_Fit a) : MI l yJ6_getChars_ba4f3 cJ6_getChars_ba4f3 7 (some FieldType.int) { frames := 0, cells := 0, slots := 0, locals := 0 } [.int (nI v), .int (nI (n + dgs v)), .ref b] G ([(b, .inl (gc G 1, m, .inl a))]) (fun (_ : Int32) (u : Nat → Int32) => (∀ j, j < n → u j = a j) ∧ (∀ i, i < dgs v → u (n + i) = dgc v i) ∧ sb_Fit u) (fun u => [(b, .inl (gc G 1, m, .inl u))]) := by
  refine jm_i (own := RJ6) (by decide) rfl (Nat.le_of_ble_eq_true rfl) (fun x hl hC hR hN => ?_)
  subst hl
  have hdv := dgs_le v
  have tail : ∀ (w p : Nat) (a1 : Nat → Int32), w < 100 → p = n + dgs w → p ≤ m → sb_Fit a1 → (∀ a2 : Nat → Int32, (∀ j, j < n ∨ p ≤ j → a2 j = a1 j) → (∀ i, i < dgs w → a2 (n + i) = dgc w i) → sb_Fit a2 → (∀ j, j < n → a2 j = a j) ∧ (∀ i, i < dgs v → a2 (n + i) = dgc v i) ∧ sb_Fit a2) → J x G [(b, .inl (gc G 1, m, .inl a1))] 0 0 [(0, .int (-nI w)), (2, .ref b), (5, .int (nI p)), (6, .int 0)] [] 72 := by
    intro w p a1 hw hp hpm hf1 fin9
    have hd1 := dgs_le w
    refine J_aload_n hC dJ6_getChars_ba4f3_72 1 rfl rfl ?_
    refine J_iinc hC [(5, .int (nI (p - 1))), (0, .int (-nI w)), (2, .ref b), (6, .int 0)] dJ6_getChars_ba4f3_73 2 rfl (nI_dec (by omega)) (by decide) rfl ?_
    refine J_iload hC dJ6_getChars_ba4f3_76 0 rfl ?_
    refine J_dgO hC dJ6_getChars_ba4f3_78 wf_J6_83 (fun t ht => ?_)
    refine J_iload_n hC dJ6_getChars_ba4f3_81 1 rfl rfl ?_
    refine J_ineg (v := nI w) hC dJ6_getChars_ba4f3_82 Int32.neg_neg ?_
    refine J_dgl hC ht (i := w) (by omega) dJ6_getChars_ba4f3_83 ?_
    refine J_bast (ws' := [(b, .inl (gc G 1, m, .inl (upd a1 (p - 1) (dgO w))))]) hC dJ6_getChars_ba4f3_84 0 rfl (by omega) (by omega) (by unfold dgO; rw [nar_nI dgO_lt]; rfl) ?_
    refine J_iload_n hC dJ6_getChars_ba4f3_85 1 rfl rfl ?_
    refine J_bipush (v := -9) hC dJ6_getChars_ba4f3_86 (by decide +kernel) ?_
    refine J_ic_ge (tgt := 104) hC dJ6_getChars_ba4f3_88 (by decide) (fun c1 => ?_) (fun c1 => ?_)
    · have h9 := (ng9 (by omega)).mp c1
      have h8 := dgs_1 (w := w) (by omega)
      refine J_iload hC dJ6_getChars_ba4f3_104 3 rfl ?_
      refine J_if_eq (tgt := 118) hC dJ6_getChars_ba4f3_106 (by decide) (fun _ => ?_) (fun c => absurd rfl c)
      refine J_iload hC dJ6_getChars_ba4f3_118 0 rfl ?_
      exact J_iret hC hR dJ6_getChars_ba4f3_120 rfl (upd a1 (p - 1) (dgO w)) (fin9 _ (fun j hj => pk_un (by omega)) (fun i hi => by
          obtain rfl : i = 0 := by omega
          rw [show n + 0 = p - 1 by omega, pk_us, dgc, dgO, h8, Nat.sub_self, Nat.pow_zero, Nat.div_one]) (sb_fitU hf1 (fit_nI dgO_lt))) rfl (by decide) (by decide)
    · have h9 : ¬ w ≤ 9 := fun h => c1 ((ng9 (by omega)).mpr h)
      have h8 := dgs_2 (w := w) (by omega) hw
      refine J_aload_n hC dJ6_getChars_ba4f3_91 2 rfl rfl ?_
      refine J_iinc hC [(5, .int (nI (p - 1 - 1))), (0, .int (-nI w)), (2, .ref b), (6, .int 0)] dJ6_getChars_ba4f3_92 0 rfl (nI_dec (by omega)) (by decide) rfl ?_
      refine J_iload hC dJ6_getChars_ba4f3_95 0 rfl ?_
      refine J_dgT hC dJ6_getChars_ba4f3_97 wf_J6_87 (fun t2 ht2 => ?_)
      refine J_iload_n hC dJ6_getChars_ba4f3_100 1 rfl rfl ?_
      refine J_ineg (v := nI w) hC dJ6_getChars_ba4f3_101 Int32.neg_neg ?_
      refine J_dgl hC ht2 (i := w) (by omega) dJ6_getChars_ba4f3_102 ?_
      refine J_bast (ws' := [(b, .inl (gc G 1, m, .inl (upd (upd a1 (p - 1) (dgO w)) (p - 1 - 1) (dgT w))))]) hC dJ6_getChars_ba4f3_103 0 rfl (by omega) (by omega) (by unfold dgT; rw [nar_nI (dgT_lt hw)]; rfl) ?_
      refine J_iload hC dJ6_getChars_ba4f3_104 3 rfl ?_
      refine J_if_eq (tgt := 118) hC dJ6_getChars_ba4f3_106 (by decide) (fun _ => ?_) (fun c => absurd rfl c)
      refine J_iload hC dJ6_getChars_ba4f3_118 0 rfl ?_
      exact J_iret hC hR dJ6_getChars_ba4f3_120 rfl (upd (upd a1 (p - 1) (dgO w)) (p - 1 - 1) (dgT w)) (fin9 _ (fun j hj => (pk_un (by omega)).trans (pk_un (by omega))) (fun i hi => by
          obtain rfl | rfl : i = 0 ∨ i = 1 := by omega
          · rw [show n + 0 = p - 1 - 1 by omega, pk_us, dgc, dgT, h8, show 2 - 1 - 0 = 1 from rfl, Nat.pow_one]; exact congrArg nI (by omega)
          · rw [show n + 1 = p - 1 by omega, pk_un (by omega), pk_us, dgc, dgO, h8, show 2 - 1 - 1 = 0 from rfl, Nat.pow_zero, Nat.div_one]) (sb_fitU (sb_fitU hf1 (fit_nI dgO_lt)) (fit_nI (dgT_lt hw)))) rfl (by decide) (by decide)
  refine J_iload_n hC dJ6_getChars_ba4f3_0 1 rfl rfl ?_
  refine J_istore hC [(5, .int (nI (n + dgs v))), (0, .int (nI v)), (1, .int (nI (n + dgs v))), (2, .ref b)] dJ6_getChars_ba4f3_1 (by decide) rfl ?_
  refine J_iload_n hC dJ6_getChars_ba4f3_3 1 rfl rfl ?_
  refine J_if_geN (a := v) (tgt := 11) hC dJ6_getChars_ba4f3_4 (by decide) (by omega) ?_
  refine J_iconst (v := 0) hC dJ6_getChars_ba4f3_11 rfl ?_
  refine J_istore hC [(6, .int 0), (5, .int (nI (n + dgs v))), (0, .int (nI v)), (1, .int (nI (n + dgs v))), (2, .ref b)] dJ6_getChars_ba4f3_12 (by decide) rfl ?_
  refine J_iload hC dJ6_getChars_ba4f3_14 0 rfl ?_
  refine J_if_ne (tgt := 22) hC dJ6_getChars_ba4f3_16 (by decide) (fun c9 => absurd rfl c9) (fun _ => ?_)
  refine J_iload_n hC dJ6_getChars_ba4f3_19 2 rfl rfl ?_
  refine J_ineg (v := -nI v) hC dJ6_getChars_ba4f3_20 rfl ?_
  refine J_istore_n hC [(0, .int (-nI v)), (6, .int 0), (5, .int (nI (n + dgs v))), (1, .int (nI (n + dgs v))), (2, .ref b)] dJ6_getChars_ba4f3_21 rfl (by decide) rfl ?_
  refine J_iload_n hC dJ6_getChars_ba4f3_22 0 rfl rfl ?_
  refine J_bipush (v := -100) hC dJ6_getChars_ba4f3_23 (by decide +kernel) ?_
  refine J_ic_gt (tgt := 72) hC dJ6_getChars_ba4f3_25 (by decide) (fun c1 => ?_) (fun c1 => ?_)
  · refine J_lv [0, 4, 2, 1] rfl ?_
    exact tail v (n + dgs v) a ((ng100 (by omega)).mp c1) rfl hq hf (fun a2 g1 g2 g3 => ⟨fun j hj => g1 j (Or.inl hj), g2, g3⟩)
  · have h100 : 100 ≤ v := Nat.le_of_not_lt (fun h => c1 ((ng100 (w := v) (by omega)).mpr h))
    have hds := dgs_100 h100 hv
    have hdl := dgs_le (v / 100)
    refine J_iload_n hC dJ6_getChars_ba4f3_28 0 rfl rfl ?_
    refine J_bipush (v := 100) hC dJ6_getChars_ba4f3_29 rfl ?_
    refine J_idiv (v := -nI (v / 100)) hC dJ6_getChars_ba4f3_31 (by decide) (sb_ndiv (by omega)) ?_
    refine J_istore_n hC [(3, .int (-nI (v / 100))), (0, .int (-nI v)), (6, .int 0), (5, .int (nI (n + dgs v))), (1, .int (nI (n + dgs v))), (2, .ref b)] dJ6_getChars_ba4f3_32 rfl (by decide) rfl ?_
    refine J_iload_n hC dJ6_getChars_ba4f3_33 0 rfl rfl ?_
    refine J_bipush (v := 100) hC dJ6_getChars_ba4f3_34 rfl ?_
    refine J_imul (v := -nI (v / 100) * 100) hC dJ6_getChars_ba4f3_36 rfl ?_
    refine J_iload_n hC dJ6_getChars_ba4f3_37 1 rfl rfl ?_
    refine J_isub (v := nI (v % 100)) hC dJ6_getChars_ba4f3_38 (sb_nrem (by omega)) ?_
    refine J_istore hC [(4, .int (nI (v % 100))), (3, .int (-nI (v / 100))), (0, .int (-nI v)), (6, .int 0), (5, .int (nI (n + dgs v))), (1, .int (nI (n + dgs v))), (2, .ref b)] dJ6_getChars_ba4f3_39 (by decide) rfl ?_
    refine J_iload_n hC dJ6_getChars_ba4f3_41 1 rfl rfl ?_
    refine J_istore_n hC [(0, .int (-nI (v / 100))), (4, .int (nI (v % 100))), (3, .int (-nI (v / 100))), (6, .int 0), (5, .int (nI (n + dgs v))), (1, .int (nI (n + dgs v))), (2, .ref b)] dJ6_getChars_ba4f3_42 rfl (by decide) rfl ?_
    refine J_aload_n hC dJ6_getChars_ba4f3_43 6 rfl rfl ?_
    refine J_iinc hC [(5, .int (nI (n + dgs v - 1))), (0, .int (-nI (v / 100))), (4, .int (nI (v % 100))), (3, .int (-nI (v / 100))), (6, .int 0), (1, .int (nI (n + dgs v))), (2, .ref b)] dJ6_getChars_ba4f3_44 4 rfl (nI_dec (by omega)) (by decide) rfl ?_
    refine J_iload hC dJ6_getChars_ba4f3_47 0 rfl ?_
    refine J_dgO hC dJ6_getChars_ba4f3_49 wf_J6_83 (fun t ht => ?_)
    refine J_iload hC dJ6_getChars_ba4f3_52 2 rfl ?_
    refine J_dgl hC ht (i := v % 100) (by omega) dJ6_getChars_ba4f3_54 ?_
    refine J_bast (ws' := [(b, .inl (gc G 1, m, .inl (upd a (n + dgs v - 1) (dgO (v % 100)))))]) hC dJ6_getChars_ba4f3_55 0 rfl (by omega) (by omega) (by unfold dgO; rw [nar_nI dgO_lt]; rfl) ?_
    refine J_aload_n hC dJ6_getChars_ba4f3_56 6 rfl rfl ?_
    refine J_iinc hC [(5, .int (nI (n + dgs v - 1 - 1))), (0, .int (-nI (v / 100))), (4, .int (nI (v % 100))), (3, .int (-nI (v / 100))), (6, .int 0), (1, .int (nI (n + dgs v))), (2, .ref b)] dJ6_getChars_ba4f3_57 0 rfl (nI_dec (by omega)) (by decide) rfl ?_
    refine J_iload hC dJ6_getChars_ba4f3_60 0 rfl ?_
    refine J_dgT hC dJ6_getChars_ba4f3_62 wf_J6_87 (fun t2 ht2 => ?_)
    refine J_iload hC dJ6_getChars_ba4f3_65 2 rfl ?_
    refine J_dgl hC ht2 (i := v % 100) (by omega) dJ6_getChars_ba4f3_67 ?_
    refine J_bast (ws' := [(b, .inl (gc G 1, m, .inl (upd (upd a (n + dgs v - 1) (dgO (v % 100))) (n + dgs v - 1 - 1) (dgT (v % 100)))))]) hC dJ6_getChars_ba4f3_68 0 rfl (by omega) (by omega) (by unfold dgT; rw [nar_nI (dgT_lt (by omega))]; rfl) ?_
    refine J_goto (tgt := 22) hC dJ6_getChars_ba4f3_69 (by decide) ?_
    refine J_iload_n hC dJ6_getChars_ba4f3_22 1 rfl rfl ?_
    refine J_bipush (v := -100) hC dJ6_getChars_ba4f3_23 (by decide +kernel) ?_
    refine J_ic_gt (tgt := 72) hC dJ6_getChars_ba4f3_25 (by decide) (fun _ => ?_) (fun c => absurd ((ng100 (by omega)).mpr (by omega)) c)
    refine J_lv [1, 6, 0, 4] rfl ?_
    refine tail (v / 100) (n + dgs v - 1 - 1) (upd (upd a (n + dgs v - 1) (dgO (v % 100))) (n + dgs v - 1 - 1) (dgT (v % 100))) (by omega) (by omega) (by omega) (sb_fitU (sb_fitU hf (fit_nI dgO_lt)) (fit_nI (dgT_lt (by omega)))) (fun a2 g1 g2 g3 => ⟨fun j hj => ?_, fun i hi => ?_, g3⟩)
    · rw [g1 j (Or.inl hj), pk_un (by omega), pk_un (by omega)]
    · by_cases h1 : i < dgs (v / 100)
      · rw [g2 i h1, dgc_hi h100 hv h1]
      · by_cases h2 : i = dgs (v / 100)
        · subst h2
          rw [g1 _ (Or.inr (by omega)), show n + dgs (v / 100) = n + dgs v - 1 - 1 by omega, pk_us, dgc_m2 h100 hv]
        · obtain rfl : i = dgs (v / 100) + 1 := by omega
          rw [g1 _ (Or.inr (by omega)), show n + (dgs (v / 100) + 1) = n + dgs v - 1 by omega, pk_un (by omega), pk_us, dgc_m1 h100 hv]

set_option maxRecDepth 100000 in
theorem c_sb_num5 (l : Launch) (G : gT) (p v m n : Nat) (a : Nat → Int32) (v9 : Nat) (hv : v9 ≤ 1023) (hnm : n ≤ m) (hm : m ≤ 300) (hf : sb_Fit a) (hq : n + dgs v9 ≤ 128) : MA l yJ5_append_c97b9 cJ5_append_c97b9 4 (some (FieldType.object "java/lang/AbstractStringBuilder")) { frames := 4, cells := 1, slots := 300, locals := 105 } [.ref p, .int (nI v9)] G (sbW G p v m n a) (fun (u : Nat × Nat × (Nat → Int32)) => n + dgs v9 ≤ u.2.1 ∧ u.2.1 ≤ 300 ∧ (∀ j, j < n → u.2.2 j = a j) ∧ (∀ i, i < dgs v9 → u.2.2 (n + i) = dgc v9 i) ∧ sb_Fit u.2.2) (fun _ => p) (fun u => sbW G p u.1 u.2.1 (n + dgs v9) u.2.2) := by
  refine jm_a (own := RJ5) (by decide) rfl (Or.inl ⟨_, rfl⟩) (Nat.le_of_ble_eq_true rfl) (fun x hl hC hR => ?_)
  subst hl
  refine J_aload_n hC dJ5_append_c97b9_0 0 rfl rfl ?_
  refine J_get (v := .int (nI n)) hC wu_J4 rfl dJ5_append_c97b9_1 0 3 (by decide) wf_J5_79 rfl rfl ?_
  refine J_istore_n hC [(2, .int (nI n)), (0, .ref p), (1, .int (nI v9))] dJ5_append_c97b9_4 rfl (by decide) rfl ?_
  refine J_iload_n hC dJ5_append_c97b9_5 0 rfl rfl ?_
  refine J_iload_n hC dJ5_append_c97b9_6 2 rfl rfl ?_
  refine J_callSi hC dJ5_append_c97b9_7 wl_J5_245 wi_J5 yi_J6_stringSize_0f7a4 (c_strSz _ G (sbW G p v m n a) v9 hv) rfl rfl ⟨Nat.le_of_ble_eq_true rfl, Nat.le_of_ble_eq_true rfl⟩ (Nat.le_of_ble_eq_true rfl) (Nat.le_of_ble_eq_true rfl) (Nat.le_of_ble_eq_true rfl) (fun r u h9 => ?_)
  subst h9
  refine J_iadd (v := nI (n + dgs v9)) hC dJ5_append_c97b9_10 (nI_add _ _) ?_
  refine J_istore_n hC [(3, .int (nI (n + dgs v9))), (2, .int (nI n)), (0, .ref p), (1, .int (nI v9))] dJ5_append_c97b9_11 rfl (by decide) rfl ?_
  refine J_aload_n hC dJ5_append_c97b9_12 2 rfl rfl ?_
  refine J_iload_n hC dJ5_append_c97b9_13 0 rfl rfl ?_
  refine J_callUv hC dJ5_append_c97b9_14 yu_J5_100 (c_sb_ens _ G p v m n a (n + dgs v9) hm hq hf) rfl rfl 0 13 rfl rfl ⟨Nat.le_of_ble_eq_true rfl, Nat.le_of_ble_eq_true rfl⟩ (Nat.le_of_ble_eq_true rfl) (Nat.le_of_ble_eq_true rfl) (Nat.le_of_ble_eq_true rfl) (fun u hu => ?_)
  obtain ⟨v2, m2, a2⟩ := u
  obtain ⟨g1, g2, g3, g4⟩ := hu
  dsimp only at g1 g2 g3 g4 ⊢
  refine J_aload_n hC dJ5_append_c97b9_17 2 rfl rfl ?_
  refine J_callUi hC dJ5_append_c97b9_18 yu_J5_83 (c_sb_isL _ G p v2 m2 n a2) rfl rfl 0 13 rfl rfl ⟨Nat.le_of_ble_eq_true rfl, Nat.le_of_ble_eq_true rfl⟩ (Nat.le_of_ble_eq_true rfl) (Nat.le_of_ble_eq_true rfl) (Nat.le_of_ble_eq_true rfl) (fun r u h9 => ?_)
  subst h9
  refine J_if_eq (tgt := 37) hC dJ5_append_c97b9_21 (by decide) (fun c => absurd c (by decide)) (fun _ => ?_)
  refine J_iload_n hC dJ5_append_c97b9_24 3 rfl rfl ?_
  refine J_iload_n hC dJ5_append_c97b9_25 0 rfl rfl ?_
  refine J_aload_n hC dJ5_append_c97b9_26 2 rfl rfl ?_
  refine J_get (v := .ref v2) hC wu_J4 rfl dJ5_append_c97b9_27 0 0 (by decide) wf_J5_15 rfl rfl ?_
  refine J_callSi hC dJ5_append_c97b9_30 wl_J5_248 wi_J5 yi_J6_getChars_ba4f3 (appr_i [(p, .inr (13, [.ref v2, .int 0, .int 0, .int (nI n)]))] (c_getCh _ G v2 m2 n v9 a2 hv g1 g2 g4)) rfl rfl ⟨Nat.le_of_ble_eq_true rfl, Nat.le_of_ble_eq_true rfl⟩ (Nat.le_of_ble_eq_true rfl) (Nat.le_of_ble_eq_true rfl) (Nat.le_of_ble_eq_true rfl) (fun r a3 h9 => ?_)
  obtain ⟨h1, h2, h3⟩ := h9
  refine J_pop hC dJ5_append_c97b9_33 rfl ?_
  refine J_goto (tgt := 48) hC dJ5_append_c97b9_34 (by decide) ?_
  refine J_aload_n hC dJ5_append_c97b9_48 2 rfl rfl ?_
  refine J_iload_n hC dJ5_append_c97b9_49 0 rfl rfl ?_
  refine J_put (ws' := sbW G p v2 m2 (n + dgs v9) a3) hC wu_J4 rfl tyJ4_ok nmJ4 dJ5_append_c97b9_50 0 3 (by decide) wf_J5_79 rfl rfl (Nat.le_of_ble_eq_true rfl) rfl rfl rfl ?_
  refine J_aload_n hC dJ5_append_c97b9_53 2 rfl rfl ?_
  exact J_aret hC hR dJ5_append_c97b9_54 (v2, m2, a3) ⟨g1, g2, fun j hj => (h1 j hj).trans (g3 j (by omega)), h2, h3⟩ rfl rfl (by decide) (by decide)

set_option maxRecDepth 100000 in
theorem c_sb_num (l : Launch) (G : gT) (p v m n : Nat) (a : Nat → Int32) (v9 : Nat) (hv : v9 ≤ 1023) (hnm : n ≤ m) (hm : m ≤ 300) (hf : sb_Fit a) (hq : n + dgs v9 ≤ 128) : MA l yJ4_append_bf812 cJ4_append_bf812 2 (some (FieldType.object "java/lang/StringBuilder")) { frames := 5, cells := 1, slots := 300, locals := 132 } [.ref p, .int (nI v9)] G (sbW G p v m n a) (fun (u : Nat × Nat × (Nat → Int32)) => n + dgs v9 ≤ u.2.1 ∧ u.2.1 ≤ 300 ∧ (∀ j, j < n → u.2.2 j = a j) ∧ (∀ i, i < dgs v9 → u.2.2 (n + i) = dgc v9 i) ∧ sb_Fit u.2.2) (fun _ => p) (fun u => sbW G p u.1 u.2.1 (n + dgs v9) u.2.2) := by
  refine jm_a (own := RJ4) (by decide) rfl (Or.inl ⟨_, rfl⟩) (Nat.le_of_ble_eq_true rfl) (fun x hl hC hR => ?_)
  subst hl
  refine J_aload_n hC dJ4_append_bf812_0 0 rfl rfl ?_
  refine J_iload_n hC dJ4_append_bf812_1 1 rfl rfl ?_
  refine J_callZa hC dJ4_append_bf812_2 yz_J4_53 (c_sb_num5 _ G p v m n a v9 hv hnm hm hf hq) rfl rfl 0 13 rfl rfl ⟨Nat.le_of_ble_eq_true rfl, Nat.le_of_ble_eq_true rfl⟩ (Nat.le_of_ble_eq_true rfl) (Nat.le_of_ble_eq_true rfl) (Nat.le_of_ble_eq_true rfl) (fun u hu => ?_)
  refine J_pop hC dJ4_append_bf812_5 rfl ?_
  refine J_aload_n hC dJ4_append_bf812_6 0 rfl rfl ?_
  exact J_aret hC hR dJ4_append_bf812_7 u hu rfl rfl (by decide) (by decide)


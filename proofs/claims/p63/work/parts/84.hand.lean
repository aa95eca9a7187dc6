set_option maxRecDepth 100000 in
set_option maxHeartbeats 4000000 in
theorem c_X11_find (l : Launch) (G : gT) (h r : Nat → Nat) (n mc : Nat) (S : CT) (v : Int32) (d : Int32) (hn : n ≤ 30) : MI l yX11_find cX11_find 4 (some .int) { frames := 0, cells := 0, slots := 0, locals := 0 } [.ref (h 0), .int v, .int d] G (hdW G h r n mc S) (fun r (_ : Unit) => r = s_placeOf S v d n) (fun _ => hdW G h r n mc S) := by
  refine jm_i (own := RX11) (by decide) rfl (Nat.le_of_ble_eq_true rfl) (fun x hl hC hR hN => ?_)
  subst hl
  have key : ∀ fuel : Nat, (∀ (i : Nat), (i ≤ n) → (s_placeOf S v d n = fnd (bkp S v d) i (n - i)) → n - i < fuel → J x G (hdW G h r n mc S) 0 0 [(0, .ref (h 0)), (1, .int v), (2, .int d), (3, .int (nI i))] [] 2) := by
    intro fuel
    induction fuel with
    | zero => exact fun _ _ _ h => absurd h (Nat.not_lt_zero _)
    | succ fuel ih =>
      intro i hi hI hmu
      refine J_iload_n hC dX11_find_2 3 rfl rfl ?_
      refine J_aload_n hC dX11_find_3 0 rfl rfl ?_
      refine J_get (v := .ref (h 9)) hC wu_X11 rfl dX11_find_4 0 8 (by decide) wf_X11_35 rfl rfl ?_
      refine J_alen hC dX11_find_7 9 rfl (t := 4) rfl ?_
      refine J_ic_geN (a := i) (b := n) (tgt := 43) hC dX11_find_8 (by decide) (by omega) (by omega) (fun (c_8 : n ≤ i) => ?_) (fun (c_8 : i < n) => ?_)
      · refine J_iconst (v := (-1)) hC dX11_find_43 rfl ?_
        refine J_iret hC hR dX11_find_44 rfl () ?_ ?_ (by decide) (by decide)
        · exact (hI.trans (fnd_done c_8)).symm
        · rfl
      · refine J_aload_n hC dX11_find_11 0 rfl rfl ?_
        refine J_get (v := .ref (h 9)) hC wu_X11 rfl dX11_find_12 0 8 (by decide) wf_X11_35 rfl rfl ?_
        refine J_iload_n hC dX11_find_15 3 rfl rfl ?_
        refine J_gald (b := r i) (i := i) hC dX11_find_16 9 rfl (by omega) (by omega) rfl ?_
        refine J_iconst (v := 0) hC dX11_find_17 rfl ?_
        refine J_iald (i := 0) (v := S 10 i) hC dX11_find_18 (11 + i) (hd_get (by omega)) (by decide) (by decide) rfl ?_
        refine J_iload_n hC dX11_find_19 1 rfl rfl ?_
        refine J_ic_ne (tgt := 37) hC dX11_find_20 (by decide) (fun (c_20 : ¬ (S 10 i) = v) => ?_) (fun (c_20 : (S 10 i) = v) => ?_)
        · refine J_iinc hC [(3, .int (nI (i + 1))), (0, .ref (h 0)), (1, .int v), (2, .int d)] dX11_find_37 3 rfl (nI_inc _) (by decide) rfl ?_
          refine J_goto (tgt := 2) hC dX11_find_40 (by decide) ?_
          refine J_lv (lv' := [(0, .ref (h 0)), (1, .int v), (2, .int d), (3, .int (nI (i + 1)))]) [1, 2, 3, 0] rfl ?_
          exact ih (i + 1) (by omega) (hI.trans (fnd_step c_8 (by simp [bkp, c_8, c_20]))) (by omega)
        · refine J_aload_n hC dX11_find_23 0 rfl rfl ?_
          refine J_get (v := .ref (h 9)) hC wu_X11 rfl dX11_find_24 0 8 (by decide) wf_X11_35 rfl rfl ?_
          refine J_iload_n hC dX11_find_27 3 rfl rfl ?_
          refine J_gald (b := r i) (i := i) hC dX11_find_28 9 rfl (by omega) (by omega) rfl ?_
          refine J_iconst (v := 1) hC dX11_find_29 rfl ?_
          refine J_iald (i := 1) (v := S 11 i) hC dX11_find_30 (11 + i) (hd_get (by omega)) (by decide) (by decide) rfl ?_
          refine J_iload_n hC dX11_find_31 2 rfl rfl ?_
          refine J_ic_ne (tgt := 37) hC dX11_find_32 (by decide) (fun (c_32 : ¬ (S 11 i) = d) => ?_) (fun (c_32 : (S 11 i) = d) => ?_)
          · refine J_iinc hC [(3, .int (nI (i + 1))), (0, .ref (h 0)), (1, .int v), (2, .int d)] dX11_find_37 3 rfl (nI_inc _) (by decide) rfl ?_
            refine J_goto (tgt := 2) hC dX11_find_40 (by decide) ?_
            refine J_lv (lv' := [(0, .ref (h 0)), (1, .int v), (2, .int d), (3, .int (nI (i + 1)))]) [1, 2, 3, 0] rfl ?_
            exact ih (i + 1) (by omega) (hI.trans (fnd_step c_8 (by simp [bkp, c_8, c_20, c_32]))) (by omega)
          · refine J_iload_n hC dX11_find_35 3 rfl rfl ?_
            refine J_iret hC hR dX11_find_36 rfl () ?_ ?_ (by decide) (by decide)
            · exact (hI.trans (fnd_hit c_8 (by simp [bkp, c_8, c_20, c_32]))).symm
            · rfl
  refine J_iconst (v := 0) hC dX11_find_0 rfl ?_
  refine J_istore_n hC [(3, .int 0), (0, .ref (h 0)), (1, .int v), (2, .int d)] dX11_find_1 rfl (by decide) rfl ?_
  refine J_lv (lv' := [(0, .ref (h 0)), (1, .int v), (2, .int d), (3, .int 0)]) [1, 2, 3, 0] rfl ?_
  exact (key _) 0 (by omega) (rfl) (Nat.lt_succ_self _)

theorem wish_eq {p q t : Nat} (hp : p ≤ 99) (hq : q ≤ 99) : (if (0 : Int32) < nI p - nI q then nI p - nI q else 0) * nI t / 100 = if nI q < nI p then (nI p - nI q) * nI t / 100 else 0 := by
  by_cases h : q < p
  · rw [if_pos (nI_lt h (by omega)), pk_sub (by omega), if_pos (show (0 : Int32) < nI (p - q) from nI_lt (a := 0) (by omega) (by omega))]
  · have h9 : ¬ (0 : Int32) < nI p - nI q := by
      rw [Int32.lt_iff_toInt_lt, pk_sub_toInt (by omega) (by omega), Int32.toInt_zero]
      omega
    rw [if_neg h9, if_neg (nI_nlt (by omega) (by omega)), Int32.zero_mul]
    rfl
theorem HV.vil {n mc : Nat} {S : CT} (hS : HV n mc S) {k : Nat} (hk : k < 3) : ∃ p t o, 1 ≤ p ∧ p ≤ 99 ∧ t ≤ 100 ∧ o ≤ 20 ∧ S 1 k = nI p ∧ S 2 k = nI t ∧ S 8 k = nI o := hS.2.2.2.2.1 k hk
theorem in3 {v : Nat} (h : v < 3) : ¬ nI v < 0 ∧ nI v < nI 3 := ⟨nI_pos (by omega), nI_lt h (by decide)⟩
theorem sellC_eq {n mc : Nat} {T : CT} {i vi si l9 : Nat} {v left : Int32} (hT : HV n mc T) (ev : v = nI vi) (hvi : vi < 3) (hsi : si ≤ 99) (esi : T 13 i = nI si) (el : left = nI l9) : (if (if (0 : Int32) < T 1 vi - T 13 i then T 1 vi - T 13 i else 0) * T 2 vi / 100 < left then (if (0 : Int32) < T 1 vi - T 13 i then T 1 vi - T 13 i else 0) * T 2 vi / 100 else left) = s_sellC T v i left 3 := by
  obtain ⟨p, t, o, h1, h2, h3, h4, h5, h6, h7⟩ := hT.vil hvi
  have e : s_wish T v (T 13 i) 3 = (if (0 : Int32) < T 1 vi - T 13 i then T 1 vi - T 13 i else 0) * T 2 vi / 100 := by
    rw [s_wish, ev, if_pos (in3 hvi), nI_clamp (by omega), h5, h6, esi, wish_eq h2 hsi]
  rw [s_sellC, e]
theorem sell_hv {n mc : Nat} {T : CT} {i l9 : Nat} {v left : Int32} {pr : Int32} (hT : HV n mc T) (ev : T 10 i = v) (hi : i < n) (hl9 : l9 ≤ 40) (el : left = nI l9) : HV n mc (s_sellT T i (s_sellC T v i left 3) pr) ∧ ∃ l2, l2 ≤ 40 ∧ left - s_sellC T v i left 3 = nI l2 := by
  obtain ⟨vi, si, hvi, hsi, evi, esi⟩ := hT.2.2.2.1 i hi
  obtain ⟨p, t, o, h1, h2, h3, h4, h5, h6, h7⟩ := hT.vil hvi
  have hc : ∃ c, s_sellC T v i left 3 = nI c ∧ c ≤ l9 ∧ si + c ≤ 99 := by
    have e : s_wish T v (T 13 i) 3 = if nI si < nI p then (nI p - nI si) * nI t / 100 else 0 := by
      rw [s_wish, ← ev, evi, if_pos (in3 hvi), nI_clamp (by omega), h5, h6, esi]
    by_cases h : si < p
    · have e2 : s_wish T v (T 13 i) 3 = nI ((p - si) * t / 100) := by
        have h8 : (p - si) * t ≤ 99 * 100 := Nat.mul_le_mul (by omega) h3
        rw [e, if_pos (nI_lt h (by omega)), pk_sub (by omega), pk_mul, show (100 : Int32) = nI 100 from rfl, pk_div (by omega) (by decide) (by decide)]
      have h8 : (p - si) * t / 100 ≤ p - si := by
        have h9 : (p - si) * t ≤ (p - si) * 100 := Nat.mul_le_mul_left _ h3
        omega
      rw [s_sellC, e2, el]
      by_cases h9 : (p - si) * t / 100 < l9
      · rw [if_pos (nI_lt h9 (by omega))]; exact ⟨_, rfl, by omega, by omega⟩
      · rw [if_neg (nI_nlt (by omega) (by omega))]; exact ⟨_, rfl, by omega, by omega⟩
    · have e2 : s_wish T v (T 13 i) 3 = 0 := by rw [e, if_neg (nI_nlt (by omega) (by omega))]
      rw [s_sellC, e2, el]
      by_cases h9 : 0 < l9
      · rw [if_pos (show (0 : Int32) < nI l9 from nI_lt (a := 0) h9 (by omega))]; exact ⟨0, rfl, by omega, by omega⟩
      · rw [if_neg (show ¬ (0 : Int32) < nI l9 from nI_nlt (b := l9) (a := 0) (by omega) (by decide))]; exact ⟨l9, rfl, by omega, by omega⟩
  obtain ⟨c, hc1, hc2, hc3⟩ := hc
  rw [hc1]
  refine ⟨⟨hT.1, hT.2.1, hT.2.2.1, fun k hk => ?_, hT.2.2.2.2⟩, l9 - c, by omega, by rw [el]; exact pk_sub hc2⟩
  obtain ⟨v1, s1, g1, g2, g3, g4⟩ := hT.2.2.2.1 k hk
  by_cases hki : k = i
  · subst hki
    refine ⟨vi, si + c, hvi, hc3, evi, ?_⟩
    show (us T 13 k (T 13 k + nI c)) 13 k = _
    simp only [us, upd, if_true, esi, nI_add]
  · refine ⟨v1, s1, g1, g2, g3, ?_⟩
    show (us T 13 i (T 13 i + nI c)) 13 k = _
    simp only [us, upd, if_true, if_neg hki, g4]
set_option maxRecDepth 100000 in
set_option maxHeartbeats 4000000 in
theorem c_X11_fair (l : Launch) (G : gT) (h r : Nat → Nat) (n mc : Nat) (S : CT) (fr : Nat) (hf : fr < 2) (hS : HV n mc S) : MV l yX11_fair cX11_fair 8 { frames := 1, cells := 0, slots := 0, locals := 24 } [.ref (h 0), .int (nI fr)] G (hdW G h r n mc S) (fun (_ : Unit) => True) (fun _ => hdW G h r n mc (s_sellAt S fr n 3)) := by
  refine jm_v (own := RX11) (by decide) rfl (Nat.le_of_ble_eq_true rfl) (fun x hl hC hR hN => ?_)
  subst hl
  have hn : n ≤ 30 := hS.1.2
  have key : ∀ fuel : Nat, (∀ (i : Nat) (T : CT) (left : Int32), (i ≤ n) → (HV n mc T) → (∃ l9, l9 ≤ 40 ∧ left = nI l9) → (T 4 fr = S 4 fr) → (s_sellAt S fr n 3 = (fo (s_sellB (S 4 fr) fr 3) i (n - i) (T, left)).1) → n - i < fuel → J x G (hdW G h r n mc T) 0 0 [(0, .ref (h 0)), (1, .int (nI fr)), (2, .int left), (3, .ref (h 9)), (4, .int (nI n)), (5, .int (nI i))] [] 19) := by
    intro fuel
    induction fuel with
    | zero => exact fun _ _ _ _ _ _ _ _ h => absurd h (Nat.not_lt_zero _)
    | succ fuel ih =>
      intro i T left hi hT hl h4 hI hmu
      refine J_iload hC dX11_fair_19 5 rfl ?_
      refine J_iload hC dX11_fair_21 4 rfl ?_
      refine J_ic_geN (a := i) (b := n) (tgt := 150) hC dX11_fair_23 (by decide) (by omega) (by omega) (fun (c_23 : n ≤ i) => ?_) (fun (c_23 : i < n) => ?_)
      · refine J_vret hC hR dX11_fair_150 () ?_ ?_ (by decide) (by decide)
        · trivial
        · rw [hI, fo_done c_23]
      · obtain ⟨vi, si, hvi, hsi, evi, esi⟩ := hT.2.2.2.1 i c_23
        obtain ⟨l9, hl9, el9⟩ := hl
        refine J_aload_n hC dX11_fair_26 3 rfl rfl ?_
        refine J_iload hC dX11_fair_27 5 rfl ?_
        refine J_gald (b := r i) (i := i) hC dX11_fair_29 9 rfl (by omega) (by omega) rfl ?_
        refine J_astore hC [(6, .ref (r i)), (0, .ref (h 0)), (1, .int (nI fr)), (2, .int left), (3, .ref (h 9)), (4, .int (nI n)), (5, .int (nI i))] dX11_fair_30 (by decide) rfl ?_
        refine J_aload hC dX11_fair_32 0 rfl ?_
        refine J_iconst (v := 0) hC dX11_fair_34 rfl ?_
        refine J_iald (i := 0) (v := T 10 i) hC dX11_fair_35 (11 + i) (hd_get (by omega)) (by decide) (by decide) rfl ?_
        refine J_aload_n hC dX11_fair_36 1 rfl rfl ?_
        refine J_get (v := .ref (h 5)) hC wu_X11 rfl dX11_fair_37 0 4 (by decide) wf_X11_22 rfl rfl ?_
        refine J_iload_n hC dX11_fair_40 2 rfl rfl ?_
        refine J_iald (i := fr) (v := T 4 fr) hC dX11_fair_41 5 rfl (by omega) (by omega) rfl ?_
        refine J_ic_ne (tgt := 144) hC dX11_fair_42 (by decide) (fun (c_42 : ¬ (T 10 i) = (T 4 fr)) => ?_) (fun (c_42 : (T 10 i) = (T 4 fr)) => ?_)
        · refine J_iinc hC [(5, .int (nI (i + 1))), (6, .ref (r i)), (0, .ref (h 0)), (1, .int (nI fr)), (2, .int left), (3, .ref (h 9)), (4, .int (nI n))] dX11_fair_144 6 rfl (nI_inc _) (by decide) rfl ?_
          refine J_goto (tgt := 19) hC dX11_fair_147 (by decide) ?_
          refine J_lv (lv' := [(0, .ref (h 0)), (1, .int (nI fr)), (2, .int left), (3, .ref (h 9)), (4, .int (nI n)), (5, .int (nI (i + 1)))]) [2, 3, 4, 5, 6, 0] rfl ?_
          exact ih (i + 1) T left (by omega) (hT) (⟨l9, hl9, el9⟩) (h4) (hI.trans (congrArg Prod.fst ((fo_step c_23).trans (congrArg _ (by simp only [s_sellB]; rw [if_neg (fun e => c_42 (e.trans h4.symm))]))))) (by omega)
        · refine J_aload hC dX11_fair_45 0 rfl ?_
          refine J_iconst (v := 1) hC dX11_fair_47 rfl ?_
          refine J_iald (i := 1) (v := T 11 i) hC dX11_fair_48 (11 + i) (hd_get (by omega)) (by decide) (by decide) rfl ?_
          refine J_aload_n hC dX11_fair_49 1 rfl rfl ?_
          refine J_get (v := .int (T 16 0)) hC wu_X11 rfl dX11_fair_50 0 11 (by decide) wf_X11_70 rfl rfl ?_
          refine J_ic_gt (tgt := 59) hC dX11_fair_53 (by decide) (fun (c_53 : (T 16 0) < (T 11 i)) => ?_) (fun (c_53 : ¬ (T 16 0) < (T 11 i)) => ?_)
          · refine J_iload_n hC dX11_fair_59 3 rfl rfl ?_
            refine J_iconst (v := 0) hC dX11_fair_60 rfl ?_
            refine J_aload_n hC dX11_fair_61 1 rfl rfl ?_
            refine J_get (v := .ref (h 1)) hC wu_X11 rfl dX11_fair_62 0 0 (by decide) wf_X11_7 rfl rfl ?_
            refine J_aload hC dX11_fair_65 0 rfl ?_
            refine J_iconst (v := 0) hC dX11_fair_67 rfl ?_
            refine J_iald (i := 0) (v := T 10 i) hC dX11_fair_68 (11 + i) (hd_get (by omega)) (by decide) (by decide) rfl ?_
            refine J_topi evi ?_
            refine J_iald (i := vi) (v := T 1 vi) hC dX11_fair_69 1 rfl (by omega) (by omega) rfl ?_
            refine J_aload hC dX11_fair_70 0 rfl ?_
            refine J_iconst (v := 3) hC dX11_fair_72 rfl ?_
            refine J_iald (i := 3) (v := T 13 i) hC dX11_fair_73 (11 + i) (hd_get (by omega)) (by decide) (by decide) rfl ?_
            refine J_isub (v := (T 1 vi) - (T 13 i)) hC dX11_fair_74 rfl ?_
            refine J_mmax (v := if 0 < ((T 1 vi) - (T 13 i)) then (T 1 vi) - (T 13 i) else 0) hC dX11_fair_75 wl_X11_73 (Nat.le_of_ble_eq_true rfl) (Nat.le_of_ble_eq_true rfl) (Nat.le_of_ble_eq_true rfl) (Nat.le_of_ble_eq_true rfl) rfl ?_
            refine J_aload_n hC dX11_fair_78 1 rfl rfl ?_
            refine J_get (v := .ref (h 2)) hC wu_X11 rfl dX11_fair_79 0 1 (by decide) wf_X11_13 rfl rfl ?_
            refine J_aload hC dX11_fair_82 0 rfl ?_
            refine J_iconst (v := 0) hC dX11_fair_84 rfl ?_
            refine J_iald (i := 0) (v := T 10 i) hC dX11_fair_85 (11 + i) (hd_get (by omega)) (by decide) (by decide) rfl ?_
            refine J_topi evi ?_
            refine J_iald (i := vi) (v := T 2 vi) hC dX11_fair_86 2 rfl (by omega) (by omega) rfl ?_
            refine J_imul (v := (if 0 < ((T 1 vi) - (T 13 i)) then (T 1 vi) - (T 13 i) else 0) * (T 2 vi)) hC dX11_fair_87 rfl ?_
            refine J_bipush (v := 100) hC dX11_fair_88 (by decide +kernel) ?_
            refine J_idiv (v := ((if 0 < ((T 1 vi) - (T 13 i)) then (T 1 vi) - (T 13 i) else 0) * (T 2 vi)) / 100) hC dX11_fair_90 (by decide) rfl ?_
            refine J_mmin (v := if (((if 0 < ((T 1 vi) - (T 13 i)) then (T 1 vi) - (T 13 i) else 0) * (T 2 vi)) / 100) < left then ((if 0 < ((T 1 vi) - (T 13 i)) then (T 1 vi) - (T 13 i) else 0) * (T 2 vi)) / 100 else left) hC dX11_fair_91 wl_X11_79 (Nat.le_of_ble_eq_true rfl) (Nat.le_of_ble_eq_true rfl) (Nat.le_of_ble_eq_true rfl) (Nat.le_of_ble_eq_true rfl) rfl ?_
            obtain ⟨cp, hcp⟩ : ∃ z, z = s_sellC T (S 4 fr) i left 3 := ⟨_, rfl⟩
            refine J_topi (w := cp) (by rw [hcp]; exact sellC_eq hT (c_42.symm.trans evi |> fun e => h4.symm.trans e) hvi hsi esi el9) ?_
            refine J_istore hC [(7, .int cp), (6, .ref (r i)), (0, .ref (h 0)), (1, .int (nI fr)), (2, .int left), (3, .ref (h 9)), (4, .int (nI n)), (5, .int (nI i))] dX11_fair_94 (by decide) rfl ?_
            refine J_iload_n hC dX11_fair_96 4 rfl rfl ?_
            refine J_iload hC dX11_fair_97 0 rfl ?_
            refine J_isub (v := left - cp) hC dX11_fair_99 rfl ?_
            refine J_istore_n hC [(2, .int (left - cp)), (7, .int cp), (6, .ref (r i)), (0, .ref (h 0)), (1, .int (nI fr)), (3, .ref (h 9)), (4, .int (nI n)), (5, .int (nI i))] dX11_fair_100 rfl (by decide) rfl ?_
            refine J_aload hC dX11_fair_101 2 rfl ?_
            refine J_iconst (v := 3) hC dX11_fair_103 rfl ?_
            refine J_dup2 hC dX11_fair_104 rfl rfl ?_
            refine J_iald (i := 3) (v := T 13 i) hC dX11_fair_105 (11 + i) (hd_get (by omega)) (by decide) (by decide) rfl ?_
            refine J_iload hC dX11_fair_106 1 rfl ?_
            refine J_iadd (v := (T 13 i) + cp) hC dX11_fair_108 rfl ?_
            refine J_iast (i := 3) (ws' := hdW G h r n mc (us T 13 i ((T 13 i) + cp))) hC dX11_fair_109 (11 + i) (hd_get (by omega)) (by decide) (by decide) (hd_set3 (by omega)) ?_
            refine J_aload hC dX11_fair_110 2 rfl ?_
            refine J_iconst (v := 4) hC dX11_fair_112 rfl ?_
            refine J_dup2 hC dX11_fair_113 rfl rfl ?_
            refine J_iald (i := 4) (v := T 14 i) hC dX11_fair_114 (11 + i) (hd_get (by omega)) (by decide) (by decide) rfl ?_
            refine J_iload hC dX11_fair_115 1 rfl ?_
            refine J_aload_n hC dX11_fair_117 3 rfl rfl ?_
            refine J_get (v := .ref (h 8)) hC wu_X11 rfl dX11_fair_118 0 7 (by decide) wf_X11_31 rfl rfl ?_
            refine J_iload_n hC dX11_fair_121 4 rfl rfl ?_
            refine J_iald (i := fr) (v := T 7 fr) hC dX11_fair_122 8 rfl (by omega) (by omega) rfl ?_
            refine J_imul (v := cp * (T 7 fr)) hC dX11_fair_123 rfl ?_
            refine J_iadd (v := (T 14 i) + (cp * (T 7 fr))) hC dX11_fair_124 rfl ?_
            refine J_iast (i := 4) hC dX11_fair_125 (11 + i) (hd_get (by omega)) (by decide) (by decide) rfl ?_
            refine J_hs4 (by omega) ?_
            refine J_aload_n hC dX11_fair_126 3 rfl rfl ?_
            refine J_dup hC dX11_fair_127 rfl ?_
            refine J_get (v := .int (T 16 1)) hC wu_X11 rfl dX11_fair_128 0 12 (by decide) wf_X11_82 rfl rfl ?_
            refine J_iload hC dX11_fair_131 1 rfl ?_
            refine J_aload_n hC dX11_fair_133 3 rfl rfl ?_
            refine J_get (v := .ref (h 8)) hC wu_X11 rfl dX11_fair_134 0 7 (by decide) wf_X11_31 rfl rfl ?_
            refine J_iload_n hC dX11_fair_137 4 rfl rfl ?_
            refine J_iald (i := fr) (v := T 7 fr) hC dX11_fair_138 8 rfl (by omega) (by omega) rfl ?_
            refine J_imul (v := cp * (T 7 fr)) hC dX11_fair_139 rfl ?_
            refine J_iadd (v := (T 16 1) + (cp * (T 7 fr))) hC dX11_fair_140 rfl ?_
            refine J_put (ws' := hdW G h r n mc (us (us (us T 13 i ((T 13 i) + cp)) 14 i ((T 14 i) + (cp * (T 7 fr)))) 16 1 ((T 16 1) + (cp * (T 7 fr))))) hC wu_X11 rfl tyX11_ok nmX11 dX11_fair_141 0 12 (by decide) wf_X11_82 rfl rfl (Nat.le_of_ble_eq_true rfl) rfl rfl rfl ?_
            refine J_wq (show _ = hdW G h r n mc (s_sellT T i cp (cp * T 7 fr)) from rfl) ?_
            refine J_iinc hC [(5, .int (nI (i + 1))), (2, .int (left - cp)), (7, .int cp), (6, .ref (r i)), (0, .ref (h 0)), (1, .int (nI fr)), (3, .ref (h 9)), (4, .int (nI n))] dX11_fair_144 7 rfl (nI_inc _) (by decide) rfl ?_
            refine J_goto (tgt := 19) hC dX11_fair_147 (by decide) ?_
            refine J_lv (lv' := [(0, .ref (h 0)), (1, .int (nI fr)), (2, .int (left - cp)), (3, .ref (h 9)), (4, .int (nI n)), (5, .int (nI (i + 1)))]) [4, 5, 1, 6, 7, 0] rfl ?_
            exact ih (i + 1) (s_sellT T i cp (cp * T 7 fr)) (left - cp) (by omega) (by rw [hcp]; exact (sell_hv hT (c_42.trans h4) c_23 hl9 el9).1) (by rw [hcp]; exact (sell_hv (pr := 0) hT (c_42.trans h4) c_23 hl9 el9).2) (h4) (hI.trans (congrArg Prod.fst ((fo_step c_23).trans (congrArg _ (by simp only [s_sellB]; rw [if_pos (c_42.trans h4), if_neg (Int32.not_le.mpr c_53), ← hcp]))))) (by omega)
          · refine J_goto (tgt := 144) hC dX11_fair_56 (by decide) ?_
            refine J_iinc hC [(5, .int (nI (i + 1))), (6, .ref (r i)), (0, .ref (h 0)), (1, .int (nI fr)), (2, .int left), (3, .ref (h 9)), (4, .int (nI n))] dX11_fair_144 6 rfl (nI_inc _) (by decide) rfl ?_
            refine J_goto (tgt := 19) hC dX11_fair_147 (by decide) ?_
            refine J_lv (lv' := [(0, .ref (h 0)), (1, .int (nI fr)), (2, .int left), (3, .ref (h 9)), (4, .int (nI n)), (5, .int (nI (i + 1)))]) [2, 3, 4, 5, 6, 0] rfl ?_
            exact ih (i + 1) T left (by omega) (hT) (⟨l9, hl9, el9⟩) (h4) (hI.trans (congrArg Prod.fst ((fo_step c_23).trans (congrArg _ (by simp only [s_sellB]; rw [if_pos (c_42.trans h4), if_pos (Int32.not_lt.mp c_53)]))))) (by omega)
  refine J_aload_n hC dX11_fair_0 0 rfl rfl ?_
  refine J_get (v := .ref (h 7)) hC wu_X11 rfl dX11_fair_1 0 6 (by decide) wf_X11_28 rfl rfl ?_
  refine J_iload_n hC dX11_fair_4 1 rfl rfl ?_
  refine J_iald (i := fr) (v := S 6 fr) hC dX11_fair_5 7 rfl (by omega) (by omega) rfl ?_
  refine J_istore_n hC [(2, .int (S 6 fr)), (0, .ref (h 0)), (1, .int (nI fr))] dX11_fair_6 rfl (by decide) rfl ?_
  refine J_aload_n hC dX11_fair_7 1 rfl rfl ?_
  refine J_get (v := .ref (h 9)) hC wu_X11 rfl dX11_fair_8 0 8 (by decide) wf_X11_35 rfl rfl ?_
  refine J_astore_n hC [(3, .ref (h 9)), (2, .int (S 6 fr)), (0, .ref (h 0)), (1, .int (nI fr))] dX11_fair_11 rfl (by decide) rfl ?_
  refine J_aload_n hC dX11_fair_12 0 rfl rfl ?_
  refine J_alen hC dX11_fair_13 9 rfl (t := 4) rfl ?_
  refine J_istore hC [(4, .int (nI n)), (3, .ref (h 9)), (2, .int (S 6 fr)), (0, .ref (h 0)), (1, .int (nI fr))] dX11_fair_14 (by decide) rfl ?_
  refine J_iconst (v := 0) hC dX11_fair_16 rfl ?_
  refine J_istore hC [(5, .int 0), (4, .int (nI n)), (3, .ref (h 9)), (2, .int (S 6 fr)), (0, .ref (h 0)), (1, .int (nI fr))] dX11_fair_17 (by decide) rfl ?_
  refine J_lv (lv' := [(0, .ref (h 0)), (1, .int (nI fr)), (2, .int (S 6 fr)), (3, .ref (h 9)), (4, .int (nI n)), (5, .int 0)]) [4, 5, 3, 2, 1, 0] rfl ?_
  exact (key _) 0 S (S 6 fr) (by omega) (hS) (by obtain ⟨w, pe, so, h1, h2, h3, h5, h6, h7, h8⟩ := hS.2.2.2.2.2.2.1 fr hf; exact ⟨so, h5, h8⟩) (rfl) (rfl) (Nat.lt_succ_self _)

set_option maxRecDepth 100000 in
theorem c_X11_without (l : Launch) (G : gT) (a n at9 : Nat) (r : Nat → Nat) (S : CT) (hn : n ≤ 30) (hat : at9 < n) : MA l yX11_without cX11_without 4 (some (FieldType.array (FieldType.array FieldType.int))) { frames := 0, cells := 1, slots := 30, locals := 0 } [.ref a, .int (nI at9)] G ((a, .inl (gc G 4, n, .inr (.inr (.inr (.inr (fun k => some (r k))))))) :: rwW G r n S) (fun (_ : Nat) => True) (fun b => b) (fun b => ((b, .inl (gc G 4, n - 1, .inr (.inr (.inr (.inr (fun k => some (r (if k < at9 then k else k + 1)))))))) :: ((a, .inl (gc G 4, n, .inr (.inr (.inr (.inr (fun k => some (r k))))))) :: rwW G r n S))) := by
  refine jm_a (own := RX11) (by decide) rfl (Or.inr ⟨_, rfl⟩) (Nat.le_of_ble_eq_true rfl) (fun x hl hC hR => ?_)
  subst hl
  refine J_aload_n hC dX11_without_0 0 rfl rfl ?_
  refine J_alen hC dX11_without_1 0 rfl (t := 4) rfl ?_
  dsimp only
  refine J_iconst (v := 1) hC dX11_without_2 rfl ?_
  refine J_isub (v := nI (n - 1)) hC dX11_without_3 (pk_sub (a := n) (b := 1) (by omega)) ?_
  refine J_newG hC dX11_without_4 wk_X11_34 (by omega) (Nat.le_of_ble_eq_true rfl) (by show 0 + (n - 1) ≤ 30; omega) (fun b => ?_)
  refine J_perm (ws' := (b, .inl (gc G 4, n - 1, .inr (.inr (.inr (.inr (fun _ => none)))))) :: ((a, .inl (gc G 4, n, .inr (.inr (.inr (.inr (fun k => some (r k))))))) :: rwW G r n S)) List.perm_append_comm ?_
  refine J_astore_n hC [(2, .ref b), (0, .ref a), (1, .int (nI at9))] dX11_without_7 rfl (by decide) rfl ?_
  refine J_iconst (v := 0) hC dX11_without_8 rfl ?_
  refine J_istore_n hC [(3, .int 0), (2, .ref b), (0, .ref a), (1, .int (nI at9))] dX11_without_9 rfl (by decide) rfl ?_
  have key : ∀ (m k : Nat) (g : Nat → Option Nat), n - 1 - k < m → k ≤ n - 1 → (∀ j, j < k → g j = some (r (if j < at9 then j else j + 1))) → J x G ((b, .inl (gc G 4, n - 1, .inr (.inr (.inr (.inr g))))) :: ((a, .inl (gc G 4, n, .inr (.inr (.inr (.inr (fun k => some (r k))))))) :: rwW G r n S)) (0 + 1) (0 + (n - 1)) [(3, .int (nI k)), (2, .ref b), (0, .ref a), (1, .int (nI at9))] [] 10 := by
    intro m
    induction m with
    | zero => exact fun _ _ h => absurd h (Nat.not_lt_zero _)
    | succ m ih =>
      intro k g hm hk hg
      refine J_iload_n hC dX11_without_10 0 rfl rfl ?_
      refine J_aload_n hC dX11_without_11 1 rfl rfl ?_
      refine J_alen hC dX11_without_12 0 rfl (t := 4) rfl ?_
      dsimp only
      refine J_ic_geN (a := k) (b := n - 1) (tgt := 39) hC dX11_without_13 (by decide) (by omega) (by omega) (fun c1 => ?_) (fun c1 => ?_)
      · refine J_aload_n hC dX11_without_39 1 rfl rfl ?_
        refine J_wEq (ws' := ((b, .inl (gc G 4, n - 1, .inr (.inr (.inr (.inr (fun k => some (r (if k < at9 then k else k + 1)))))))) :: ((a, .inl (gc G 4, n, .inr (.inr (.inr (.inr (fun k => some (r k))))))) :: rwW G r n S))) ⟨rfl, fun D cl H => va_at_congq (fun j hj => hg j (by omega)), wEq.rfl' _⟩ ?_
        exact J_aret hC hR dX11_without_40 b trivial rfl rfl (by decide) (by show 0 + (n - 1) ≤ 30; omega)
      · refine J_aload_n hC dX11_without_16 1 rfl rfl ?_
        refine J_iload_n hC dX11_without_17 0 rfl rfl ?_
        refine J_aload_n hC dX11_without_18 2 rfl rfl ?_
        refine J_iload_n hC dX11_without_19 0 rfl rfl ?_
        have step : ∀ q9, q9 = (if k < at9 then k else k + 1) → q9 < n → J x G ((b, .inl (gc G 4, n - 1, .inr (.inr (.inr (.inr g))))) :: ((a, .inl (gc G 4, n, .inr (.inr (.inr (.inr (fun k => some (r k))))))) :: rwW G r n S)) (0 + 1) (0 + (n - 1)) [(3, .int (nI k)), (2, .ref b), (0, .ref a), (1, .int (nI at9))] [.int (nI q9), .ref a, .int (nI k), .ref b] 31 := by
          intro q9 hq9 hq2
          refine J_gald (b := r q9) hC dX11_without_31 1 rfl hq2 (by omega) rfl ?_
          refine J_gast (ws' := ((b, .inl (gc G 4, n - 1, .inr (.inr (.inr (.inr (va_up g k (some (r q9)))))))) :: ((a, .inl (gc G 4, n, .inr (.inr (.inr (.inr (fun k => some (r k))))))) :: rwW G r n S))) hC dX11_without_32 0 (2 + q9) rfl ((show _ = (rwW G r n S)[q9]? from by rw [show 2 + q9 = q9 + 1 + 1 by omega]; rfl).trans (rw_get hq2)) c1 (by omega) rfl ?_
          refine J_iinc hC [(3, .int (nI (k + 1))), (2, .ref b), (0, .ref a), (1, .int (nI at9))] dX11_without_33 0 rfl (nI_inc _) (by decide) rfl ?_
          refine J_goto (tgt := 10) hC dX11_without_36 (by decide) ?_
          refine ih (k + 1) (va_up g k (some (r q9))) (by omega) (by omega) (fun j hj => ?_)
          by_cases hjk : j = k
          · subst hjk; rw [va_up, if_pos rfl, hq9]
          · rw [va_up, if_neg hjk]; exact hg j (by omega)
        refine J_iload_n hC dX11_without_20 3 rfl rfl ?_
        refine J_ic_geN (a := k) (b := at9) (tgt := 28) hC dX11_without_21 (by decide) (by omega) (by omega) (fun c2 => ?_) (fun c2 => ?_)
        · refine J_iload_n hC dX11_without_28 0 rfl rfl ?_
          refine J_iconst (v := 1) hC dX11_without_29 rfl ?_
          refine J_iadd (v := nI (k + 1)) hC dX11_without_30 (nI_1 k) ?_
          exact step (k + 1) (if_neg (by omega)).symm (by omega)
        · refine J_iload_n hC dX11_without_24 0 rfl rfl ?_
          refine J_goto (tgt := 31) hC dX11_without_25 (by decide) ?_
          exact step k (if_pos c2).symm (by omega)
  exact key _ 0 _ (Nat.lt_succ_self _) (Nat.zero_le _) (fun j hj => absurd hj (Nat.not_lt_zero _))

set_option maxRecDepth 100000 in
theorem c_X11_with (l : Launch) (G : gT) (a w n : Nat) (fw : Nat → Int32) (r : Nat → Nat) (S : CT) (hn : n < 30) : MA l yX11_with cX11_with 4 (some (FieldType.array (FieldType.array FieldType.int))) { frames := 0, cells := 1, slots := 31, locals := 0 } [.ref a, .ref w] G ((a, .inl (gc G 4, n, .inr (.inr (.inr (.inr (fun k => some (r k))))))) :: (w, .inl (gc G 0, 5, .inl fw)) :: rwW G r n S) (fun (_ : Nat) => True) (fun b => b) (fun b => ((b, .inl (gc G 4, n + 1, .inr (.inr (.inr (.inr (fun k => some (if k < n then r k else w))))))) :: ((a, .inl (gc G 4, n, .inr (.inr (.inr (.inr (fun k => some (r k))))))) :: (w, .inl (gc G 0, 5, .inl fw)) :: rwW G r n S))) := by
  refine jm_a (own := RX11) (by decide) rfl (Or.inr ⟨_, rfl⟩) (Nat.le_of_ble_eq_true rfl) (fun x hl hC hR => ?_)
  subst hl
  refine J_aload_n hC dX11_with_0 0 rfl rfl ?_
  refine J_alen hC dX11_with_1 0 rfl (t := 4) rfl ?_
  dsimp only
  refine J_iconst (v := 1) hC dX11_with_2 rfl ?_
  refine J_iadd (v := nI (n + 1)) hC dX11_with_3 (nI_1 n) ?_
  refine J_newG hC dX11_with_4 wk_X11_34 (by omega) (Nat.le_of_ble_eq_true rfl) (by show 0 + (n + 1) ≤ 31; omega) (fun b => ?_)
  refine J_perm (ws' := ((b, .inl (gc G 4, n + 1, .inr (.inr (.inr (.inr (fun _ => none)))))) :: ((a, .inl (gc G 4, n, .inr (.inr (.inr (.inr (fun k => some (r k))))))) :: (w, .inl (gc G 0, 5, .inl fw)) :: rwW G r n S))) List.perm_append_comm ?_
  refine J_astore_n hC [(2, .ref b), (0, .ref a), (1, .ref w)] dX11_with_7 rfl (by decide) rfl ?_
  refine J_iconst (v := 0) hC dX11_with_8 rfl ?_
  refine J_istore_n hC [(3, .int 0), (2, .ref b), (0, .ref a), (1, .ref w)] dX11_with_9 rfl (by decide) rfl ?_
  have key : ∀ (m k : Nat) (g : Nat → Option Nat), n - k < m → k ≤ n → (∀ j, j < k → g j = some (r j)) → J x G ((b, .inl (gc G 4, n + 1, .inr (.inr (.inr (.inr g))))) :: ((a, .inl (gc G 4, n, .inr (.inr (.inr (.inr (fun k => some (r k))))))) :: (w, .inl (gc G 0, 5, .inl fw)) :: rwW G r n S)) (0 + 1) (0 + (n + 1)) [(3, .int (nI k)), (2, .ref b), (0, .ref a), (1, .ref w)] [] 10 := by
    intro m
    induction m with
    | zero => exact fun _ _ h => absurd h (Nat.not_lt_zero _)
    | succ m ih =>
      intro k g hm hk hg
      refine J_iload_n hC dX11_with_10 0 rfl rfl ?_
      refine J_aload_n hC dX11_with_11 2 rfl rfl ?_
      refine J_alen hC dX11_with_12 1 rfl (t := 4) rfl ?_
      dsimp only
      refine J_ic_geN (a := k) (b := n) (tgt := 28) hC dX11_with_13 (by decide) (by omega) (by omega) (fun c1 => ?_) (fun c1 => ?_)
      · refine J_aload_n hC dX11_with_28 1 rfl rfl ?_
        refine J_aload_n hC dX11_with_29 2 rfl rfl ?_
        refine J_alen hC dX11_with_30 1 rfl (t := 4) rfl ?_
        refine J_aload_n hC dX11_with_31 3 rfl rfl ?_
        dsimp only
        refine J_gast (ws' := ((b, .inl (gc G 4, n + 1, .inr (.inr (.inr (.inr (va_up g n (some w))))))) :: ((a, .inl (gc G 4, n, .inr (.inr (.inr (.inr (fun k => some (r k))))))) :: (w, .inl (gc G 0, 5, .inl fw)) :: rwW G r n S))) hC dX11_with_32 0 2 rfl rfl (by omega) (by omega) rfl ?_
        refine J_aload_n hC dX11_with_33 1 rfl rfl ?_
        refine J_wEq (ws' := ((b, .inl (gc G 4, n + 1, .inr (.inr (.inr (.inr (fun k => some (if k < n then r k else w))))))) :: ((a, .inl (gc G 4, n, .inr (.inr (.inr (.inr (fun k => some (r k))))))) :: (w, .inl (gc G 0, 5, .inl fw)) :: rwW G r n S))) ⟨rfl, fun D cl H => va_at_congq (fun j hj => ?_), wEq.rfl' _⟩ ?_
        · by_cases hjn : j = n
          · subst hjn; rw [va_up, if_pos rfl, if_neg (Nat.lt_irrefl _)]
          · rw [va_up, if_neg hjn, if_pos (by omega)]; exact hg j (by omega)
        exact J_aret hC hR dX11_with_34 b trivial rfl rfl (by decide) (by show 0 + (n + 1) ≤ 31; omega)
      · refine J_aload_n hC dX11_with_16 1 rfl rfl ?_
        refine J_iload_n hC dX11_with_17 0 rfl rfl ?_
        refine J_aload_n hC dX11_with_18 2 rfl rfl ?_
        refine J_iload_n hC dX11_with_19 0 rfl rfl ?_
        refine J_gald (b := r k) hC dX11_with_20 1 rfl c1 (by omega) rfl ?_
        refine J_gast (ws' := ((b, .inl (gc G 4, n + 1, .inr (.inr (.inr (.inr (va_up g k (some (r k)))))))) :: ((a, .inl (gc G 4, n, .inr (.inr (.inr (.inr (fun k => some (r k))))))) :: (w, .inl (gc G 0, 5, .inl fw)) :: rwW G r n S))) hC dX11_with_21 0 (3 + k) rfl ((show _ = (rwW G r n S)[k]? from by rw [show 3 + k = k + 1 + 1 + 1 by omega]; rfl).trans (rw_get c1)) (by omega) (by omega) rfl ?_
        refine J_iinc hC [(3, .int (nI (k + 1))), (2, .ref b), (0, .ref a), (1, .ref w)] dX11_with_22 0 rfl (nI_inc _) (by decide) rfl ?_
        refine J_goto (tgt := 10) hC dX11_with_25 (by decide) ?_
        refine ih (k + 1) (va_up g k (some (r k))) (by omega) (by omega) (fun j hj => ?_)
        by_cases hjk : j = k
        · subst hjk; rw [va_up, if_pos rfl]
        · rw [va_up, if_neg hjk]; exact hg j (by omega)
  exact key _ 0 _ (Nat.lt_succ_self _) (Nat.zero_le _) (fun j hj => absurd hj (Nat.not_lt_zero _))

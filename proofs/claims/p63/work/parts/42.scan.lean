set_option maxRecDepth 100000 in
set_option maxHeartbeats 4000000 in
theorem c_X6_isBlank (l : Launch) (G : gT) (ws0 : va_W) (s : Nat) (v : Int32) : MI l yX6_isBlank cX6_isBlank 2 (some .boolean) { frames := 0, cells := 0, slots := 0, locals := 0 } [.ref (s), .int v] G (ws0) (fun r (_ : Unit) => (r = 1 ∧ q_bl v) ∨ (r = 0 ∧ ¬ (q_bl v))) (fun _ => ws0) := by
  refine jm_i (own := RX6) (by decide) rfl (Nat.le_of_ble_eq_true rfl) (fun x hl hC hR hN => ?_)
  subst hl
  refine J_iload_n hC dX6_isBlank_0 1 rfl rfl ?_
  refine J_bipush (v := 32) hC dX6_isBlank_1 (by decide +kernel) ?_
  refine J_ic_eq (tgt := 12) hC dX6_isBlank_3 (by decide) (fun (c_3 : v = 32) => ?_) (fun (c_3 : ¬ v = 32) => ?_)
  · refine J_iconst (v := 1) hC dX6_isBlank_12 rfl ?_
    refine J_goto (tgt := 17) hC dX6_isBlank_13 (by decide) ?_
    refine J_iret hC hR dX6_isBlank_17 rfl () ?_ ?_ (by decide) (by decide)
    · simp_all [q_bl]
    · rfl
  · refine J_iload_n hC dX6_isBlank_6 1 rfl rfl ?_
    refine J_bipush (v := 10) hC dX6_isBlank_7 (by decide +kernel) ?_
    refine J_ic_ne (tgt := 16) hC dX6_isBlank_9 (by decide) (fun (c_9 : ¬ v = 10) => ?_) (fun (c_9 : v = 10) => ?_)
    · refine J_iconst (v := 0) hC dX6_isBlank_16 rfl ?_
      refine J_iret hC hR dX6_isBlank_17 rfl () ?_ ?_ (by decide) (by decide)
      · simp_all [q_bl]
      · rfl
    · refine J_iconst (v := 1) hC dX6_isBlank_12 rfl ?_
      refine J_goto (tgt := 17) hC dX6_isBlank_13 (by decide) ?_
      refine J_iret hC hR dX6_isBlank_17 rfl () ?_ ?_ (by decide) (by decide)
      · simp_all [q_bl]
      · rfl

theorem hfi_of {f : RT} {q : RT × Nat} (hf : ∀ j, j < q.2 → q.1 j &&& 255 = f j) : ∀ j, j < q.2 → ¬ f j = -1 := by
  intro j hj e
  obtain ⟨n, hn, h⟩ := and255 (q.1 j)
  rw [hf j hj, e] at h
  exact nI_ne_m1 (by omega) h.symm
theorem tW_of {f : RT} {il e : Nat} (h : tK f il e = 2) : tW f il e = fo (q_dw f) (tS f il e) (tE f il e - tS f il e) 0 := if_pos h
theorem q_dw_go {f : RT} {j n il : Nat} {v : Int32} (h : j < n) (ha : q_at f il j = f j) : fo (q_dw f) j (n - j) v = fo (q_dw f) (j + 1) (n - (j + 1)) (if 10 * v + q_at f il j - 48 < 1000000 then 10 * v + q_at f il j - 48 else 1000000) := by
  rw [fo_step h, ha]; rfl

set_option maxRecDepth 100000 in
set_option maxHeartbeats 4000000 in
theorem c_X6_readDigits (l : Launch) (G : gT) (s : Nat) (b : Nat → Nat) (f : RT) (q : RT × Nat) (k0 : Int32) (s0 : Int32) (p : Nat) (v0 : Int32) (hf : ∀ j, j < q.2 → q.1 j &&& 255 = f j) (hq : q.2 ≤ 600) (hp : p ≤ q.2) : MV l yX6_readDigits cX6_readDigits 1 { frames := 1, cells := 0, slots := 0, locals := 24 } [.ref (s)] G (scR G s b q k0 s0 (nI p) v0) (fun (_ : Unit) => True) (fun _ => scR G s b q k0 s0 (nI (q_run (fun x => decide (q_dig x)) f (q.2 - p) p)) (fo (q_dw f) p ((q_run (fun x => decide (q_dig x)) f (q.2 - p) p) - p) 0)) := by
  refine jm_v (own := RX6) (by decide) rfl (Nat.le_of_ble_eq_true rfl) (fun x hl hC hR hN => ?_)
  subst hl
  have key : ∀ fuel : Nat, (∀ (z : Nat) (val : Int32), (p ≤ z ∧ z ≤ q.2) → ((q_run (fun x => decide (q_dig x)) f (q.2 - p) p) = q_run (fun x => decide (q_dig x)) f (q.2 - z) z) → (fo (q_dw f) p ((q_run (fun x => decide (q_dig x)) f (q.2 - p) p) - p) 0 = fo (q_dw f) z ((q_run (fun x => decide (q_dig x)) f (q.2 - p) p) - z) val) → q.2 - z < fuel → J x G (scR G s b q k0 s0 (nI z) val) 0 0 [(0, .ref s)] [] 5) := by
    intro fuel
    induction fuel with
    | zero => exact fun _ _ _ _ _ h => absurd h (Nat.not_lt_zero _)
    | succ fuel ih =>
      intro z val hx hI hV hmu
      refine J_aload_n hC dX6_readDigits_5 0 rfl rfl ?_
      refine J_get (v := .int (nI z)) hC wu_X6 rfl dX6_readDigits_6 0 3 (by decide) wf_X6_18 rfl rfl ?_
      refine J_aload_n hC dX6_readDigits_9 0 rfl rfl ?_
      refine J_get (v := .ref (b 0)) hC wu_X6 rfl dX6_readDigits_10 0 0 (by decide) wf_X6_24 rfl rfl ?_
      refine J_get (v := .int (nI q.2)) hC wu_X1 rfl dX6_readDigits_13 1 1 (by decide) wf_X6_28 rfl rfl ?_
      refine J_ic_geN (a := z) (b := q.2) (tgt := 80) hC dX6_readDigits_16 (by decide) (by omega) (by omega) (fun (c_16 : q.2 ≤ z) => ?_) (fun (c_16 : z < q.2) => ?_)
      · refine J_vret hC hR dX6_readDigits_80 () ?_ ?_ (by decide) (by decide)
        · trivial
        · have eE : (q_run (fun x => decide (q_dig x)) f (q.2 - p) p) = z := hI.trans (q_run_end c_16)
          rw [hV, eE, fo_done (Nat.le_refl _)]
      · refine J_aload_n hC dX6_readDigits_19 0 rfl rfl ?_
        refine J_get (v := .ref (b 0)) hC wu_X6 rfl dX6_readDigits_20 0 0 (by decide) wf_X6_24 rfl rfl ?_
        refine J_aload_n hC dX6_readDigits_23 0 rfl rfl ?_
        refine J_get (v := .int (nI z)) hC wu_X6 rfl dX6_readDigits_24 0 3 (by decide) wf_X6_18 rfl rfl ?_
        refine J_callVi hC dX6_readDigits_27 wl_X6_33 yi_X1_at (cons_i (c_X1_at _ G b q f z hf (by omega) (by omega))) rfl rfl 1 1 rfl rfl ⟨Nat.le_of_ble_eq_true rfl, Nat.le_of_ble_eq_true rfl⟩ (Nat.le_of_ble_eq_true rfl) (Nat.le_of_ble_eq_true rfl) (Nat.le_of_ble_eq_true rfl) (fun r u h_27 => ?_)
        subst h_27
        refine J_callSNi hC dX6_readDigits_30 wln_X6_44 yi_X10_isDigit (c_X10_isDigit _ G (scR G s b q k0 s0 (nI z) val) (q_at f q.2 z)) rfl rfl ⟨Nat.le_of_ble_eq_true rfl, Nat.le_of_ble_eq_true rfl⟩ (Nat.le_of_ble_eq_true rfl) (Nat.le_of_ble_eq_true rfl) (Nat.le_of_ble_eq_true rfl) (fun r u h_30 => ?_)
        rcases h_30 with ⟨rfl, c_30⟩ | ⟨rfl, c_30⟩
        · refine J_if_eq (tgt := 80) hC dX6_readDigits_33 (by decide) (fun c => absurd c (by decide)) (fun _ => ?_)
          have hgo := q_at_go (P := (fun x => decide (q_dig x))) (f := f) (il := q.2) (q := z) (by decide) (decide_eq_true c_30)
          have hat : q_at f q.2 z = f z := by rw [q_at, if_pos hgo.1]
          have hel : z < (q_run (fun x => decide (q_dig x)) f (q.2 - p) p) := by rw [hI, hgo.2.2]; have := (q_run_le (fun x => decide (q_dig x)) f (q.2 - (z + 1)) (z + 1)).1; omega
          refine J_aload_n hC dX6_readDigits_36 0 rfl rfl ?_
          refine J_ldc (v := 1000000) hC dX6_readDigits_37 wx_X6_50 ?_
          refine J_bipush (v := 10) hC dX6_readDigits_39 (by decide +kernel) ?_
          refine J_aload_n hC dX6_readDigits_41 0 rfl rfl ?_
          refine J_get (v := .int val) hC wu_X6 rfl dX6_readDigits_42 0 4 (by decide) wf_X6_21 rfl rfl ?_
          refine J_imul (v := 10 * val) hC dX6_readDigits_45 rfl ?_
          refine J_aload_n hC dX6_readDigits_46 0 rfl rfl ?_
          refine J_get (v := .ref (b 0)) hC wu_X6 rfl dX6_readDigits_47 0 0 (by decide) wf_X6_24 rfl rfl ?_
          refine J_aload_n hC dX6_readDigits_50 0 rfl rfl ?_
          refine J_get (v := .int (nI z)) hC wu_X6 rfl dX6_readDigits_51 0 3 (by decide) wf_X6_18 rfl rfl ?_
          refine J_callVi hC dX6_readDigits_54 wl_X6_33 yi_X1_at (cons_i (c_X1_at _ G b q f z hf (by omega) (by omega))) rfl rfl 1 1 rfl rfl ⟨Nat.le_of_ble_eq_true rfl, Nat.le_of_ble_eq_true rfl⟩ (Nat.le_of_ble_eq_true rfl) (Nat.le_of_ble_eq_true rfl) (Nat.le_of_ble_eq_true rfl) (fun r u h_54 => ?_)
          subst h_54
          refine J_iadd (v := (10 * val) + (q_at f q.2 z)) hC dX6_readDigits_57 rfl ?_
          refine J_bipush (v := 48) hC dX6_readDigits_58 (by decide +kernel) ?_
          refine J_isub (v := ((10 * val) + (q_at f q.2 z)) - 48) hC dX6_readDigits_60 rfl ?_
          refine J_mmin (v := if (((10 * val) + (q_at f q.2 z)) - 48) < 1000000 then ((10 * val) + (q_at f q.2 z)) - 48 else 1000000) hC dX6_readDigits_61 wl_X6_51 (Nat.le_of_ble_eq_true rfl) (Nat.le_of_ble_eq_true rfl) (Nat.le_of_ble_eq_true rfl) (Nat.le_of_ble_eq_true rfl) rfl ?_
          refine J_put (ws' := scR G s b q k0 s0 (nI z) (if (((10 * val) + (q_at f q.2 z)) - 48) < 1000000 then ((10 * val) + (q_at f q.2 z)) - 48 else 1000000)) hC wu_X6 rfl tyX6_ok nmX6 dX6_readDigits_64 0 4 (by decide) wf_X6_21 rfl rfl (Nat.le_of_ble_eq_true rfl) rfl rfl rfl ?_
          refine J_aload_n hC dX6_readDigits_67 0 rfl rfl ?_
          refine J_dup hC dX6_readDigits_68 rfl ?_
          refine J_get (v := .int (nI z)) hC wu_X6 rfl dX6_readDigits_69 0 3 (by decide) wf_X6_18 rfl rfl ?_
          refine J_iconst (v := 1) hC dX6_readDigits_72 rfl ?_
          refine J_iadd (v := nI (1 + z)) hC dX6_readDigits_73 ((nI_add z 1).trans (congrArg nI (by omega))) ?_
          refine J_put (ws' := scR G s b q k0 s0 (nI (1 + z)) (if (((10 * val) + (q_at f q.2 z)) - 48) < 1000000 then ((10 * val) + (q_at f q.2 z)) - 48 else 1000000)) hC wu_X6 rfl tyX6_ok nmX6 dX6_readDigits_74 0 3 (by decide) wf_X6_18 rfl rfl (Nat.le_of_ble_eq_true rfl) rfl rfl rfl ?_
          refine J_goto (tgt := 5) hC dX6_readDigits_77 (by decide) ?_
          exact ih (1 + z) (if (((10 * val) + (q_at f q.2 z)) - 48) < 1000000 then ((10 * val) + (q_at f q.2 z)) - 48 else 1000000) (by have := hgo.1; omega) (hI.trans (hgo.2.2.trans (by rw [Nat.add_comm 1 z]))) ((hV.trans (q_dw_go hel hat)).trans (by rw [Nat.add_comm 1 z])) (by omega)
        · refine J_if_eq (tgt := 80) hC dX6_readDigits_33 (by decide) (fun _ => ?_) (fun c => absurd (by decide) c)
          refine J_vret hC hR dX6_readDigits_80 () ?_ ?_ (by decide) (by decide)
          · trivial
          · have eE : (q_run (fun x => decide (q_dig x)) f (q.2 - p) p) = z := hI.trans (q_at_run (P := (fun x => decide (q_dig x))) (decide_eq_false c_30))
            rw [hV, eE, fo_done (Nat.le_refl _)]
  refine J_aload_n hC dX6_readDigits_0 0 rfl rfl ?_
  refine J_iconst (v := 0) hC dX6_readDigits_1 rfl ?_
  refine J_put (ws' := scR G s b q k0 s0 (nI p) 0) hC wu_X6 rfl tyX6_ok nmX6 dX6_readDigits_2 0 4 (by decide) wf_X6_21 rfl rfl (Nat.le_of_ble_eq_true rfl) rfl rfl rfl ?_
  exact (key _) p 0 (by omega) (rfl) (rfl) (Nat.lt_succ_self _)

set_option maxRecDepth 100000 in
set_option maxHeartbeats 4000000 in
theorem c_X6_next (l : Launch) (G : gT) (s : Nat) (b : Nat → Nat) (f : RT) (q : RT × Nat) (k0 : Int32) (s0 : Int32) (p : Nat) (v0 : Int32) (hf : ∀ j, j < q.2 → q.1 j &&& 255 = f j) (hq : q.2 ≤ 600) (hp : p ≤ q.2) : MV l yX6_next cX6_next 2 { frames := 2, cells := 0, slots := 0, locals := 44 } [.ref (s)] G (scR G s b q k0 s0 (nI p) v0) (fun (u : Int32) => NU f q.2 p u) (fun u => scW G s b f q p u) := by
  refine jm_v (own := RX6) (by decide) rfl (Nat.le_of_ble_eq_true rfl) (fun x hl hC hR hN => ?_)
  subst hl
  have key : ∀ fuel : Nat, (∀ (z : Nat), (p ≤ z ∧ z ≤ q.2) → (tS f q.2 p = q_run (fun x => decide (q_bl x)) f (q.2 - z) z) → 10000 - z < fuel → J x G (scR G s b q k0 (nI z) (nI p) v0) 0 0 [(0, .ref s)] [] 8) ∧ (∀ (z : Nat) (y : Nat), (tS f q.2 p = z) → (z < q.2 ∧ q_let (f z)) → (z ≤ y ∧ y ≤ q.2) → (q_run (fun x => decide (q_let x)) f (q.2 - z) z = q_run (fun x => decide (q_let x)) f (q.2 - y) y) → 8000 - y < fuel → J x G (scR G s b q 1 (nI z) (nI y) v0) 0 0 [(0, .ref s), (1, .int (q_at f q.2 z))] [] 98) := by
    intro fuel
    induction fuel with
    | zero => exact ⟨fun _ _ _ h => absurd h (Nat.not_lt_zero _), fun _ _ _ _ _ _ h => absurd h (Nat.not_lt_zero _)⟩
    | succ fuel ih =>
      refine ⟨?_, ?_⟩
      · intro z hx hI hmu
        refine J_aload_n hC dX6_next_8 0 rfl rfl ?_
        refine J_get (v := .int (nI z)) hC wu_X6 rfl dX6_next_9 0 2 (by decide) wf_X6_15 rfl rfl ?_
        refine J_aload_n hC dX6_next_12 0 rfl rfl ?_
        refine J_get (v := .ref (b 0)) hC wu_X6 rfl dX6_next_13 0 0 (by decide) wf_X6_24 rfl rfl ?_
        refine J_get (v := .int (nI q.2)) hC wu_X1 rfl dX6_next_16 1 1 (by decide) wf_X6_28 rfl rfl ?_
        refine J_ic_geN (a := z) (b := q.2) (tgt := 53) hC dX6_next_19 (by decide) (by omega) (by omega) (fun (c_19 : q.2 ≤ z) => ?_) (fun (c_19 : z < q.2) => ?_)
        · have hSq : tS f q.2 p = z := hI.trans (q_run_end c_19)
          refine J_aload_n hC dX6_next_53 0 rfl rfl ?_
          refine J_aload_n hC dX6_next_54 0 rfl rfl ?_
          refine J_get (v := .int (nI z)) hC wu_X6 rfl dX6_next_55 0 2 (by decide) wf_X6_15 rfl rfl ?_
          refine J_put (ws' := scR G s b q k0 (nI z) (nI z) v0) hC wu_X6 rfl tyX6_ok nmX6 dX6_next_58 0 3 (by decide) wf_X6_18 rfl rfl (Nat.le_of_ble_eq_true rfl) rfl rfl rfl ?_
          refine J_aload_n hC dX6_next_61 0 rfl rfl ?_
          refine J_get (v := .ref (b 0)) hC wu_X6 rfl dX6_next_62 0 0 (by decide) wf_X6_24 rfl rfl ?_
          refine J_aload_n hC dX6_next_65 0 rfl rfl ?_
          refine J_get (v := .int (nI z)) hC wu_X6 rfl dX6_next_66 0 2 (by decide) wf_X6_15 rfl rfl ?_
          refine J_callVi hC dX6_next_69 wl_X6_33 yi_X1_at (cons_i (c_X1_at _ G b q f z hf (by omega) (by omega))) rfl rfl 1 1 rfl rfl ⟨Nat.le_of_ble_eq_true rfl, Nat.le_of_ble_eq_true rfl⟩ (Nat.le_of_ble_eq_true rfl) (Nat.le_of_ble_eq_true rfl) (Nat.le_of_ble_eq_true rfl) (fun r u h_69 => ?_)
          subst h_69
          refine J_istore_n hC [(1, .int (q_at f q.2 z)), (0, .ref s)] dX6_next_72 rfl (by decide) rfl ?_
          refine J_iload_n hC dX6_next_73 0 rfl rfl ?_
          refine J_iconst (v := (-1)) hC dX6_next_74 rfl ?_
          refine J_ic_ne (tgt := 86) hC dX6_next_75 (by decide) (fun (c_75 : ¬ (q_at f q.2 z) = (-1)) => ?_) (fun (c_75 : (q_at f q.2 z) = (-1)) => ?_)
          · refine J_iload_n hC dX6_next_86 0 rfl rfl ?_
            refine J_callSNi hC dX6_next_87 wln_X6_41 yi_X10_isLetter (c_X10_isLetter _ G (scR G s b q k0 (nI z) (nI z) v0) (q_at f q.2 z)) rfl rfl ⟨Nat.le_of_ble_eq_true rfl, Nat.le_of_ble_eq_true rfl⟩ (Nat.le_of_ble_eq_true rfl) (Nat.le_of_ble_eq_true rfl) (Nat.le_of_ble_eq_true rfl) (fun r u h_87 => ?_)
            rcases h_87 with ⟨rfl, c_87⟩ | ⟨rfl, c_87⟩
            · refine J_if_eq (tgt := 142) hC dX6_next_90 (by decide) (fun c => absurd c (by decide)) (fun _ => ?_)
              have hql := q_at_lt rfl c_75
              have hlq : z < q.2 ∧ q_let (f z) := ⟨hql.1, by rw [hql.2]; exact c_87⟩
              refine J_aload_n hC dX6_next_93 1 rfl rfl ?_
              refine J_iconst (v := 1) hC dX6_next_94 rfl ?_
              refine J_put (ws' := scR G s b q 1 (nI z) (nI z) v0) hC wu_X6 rfl tyX6_ok nmX6 dX6_next_95 0 1 (by decide) wf_X6_11 rfl rfl (Nat.le_of_ble_eq_true rfl) rfl rfl rfl ?_
              refine J_lv (lv' := [(0, .ref s), (1, .int (q_at f q.2 z))]) [1, 0] rfl ?_
              exact ih.2 z z (hSq) (hlq) (by have := hlq.1; omega) (rfl) (by omega)
            · refine J_if_eq (tgt := 142) hC dX6_next_90 (by decide) (fun _ => ?_) (fun c => absurd (by decide) c)
              refine J_iload_n hC dX6_next_142 0 rfl rfl ?_
              refine J_callSNi hC dX6_next_143 wln_X6_44 yi_X10_isDigit (c_X10_isDigit _ G (scR G s b q k0 (nI z) (nI z) v0) (q_at f q.2 z)) rfl rfl ⟨Nat.le_of_ble_eq_true rfl, Nat.le_of_ble_eq_true rfl⟩ (Nat.le_of_ble_eq_true rfl) (Nat.le_of_ble_eq_true rfl) (Nat.le_of_ble_eq_true rfl) (fun r u h_143 => ?_)
              rcases h_143 with ⟨rfl, c_143⟩ | ⟨rfl, c_143⟩
              · refine J_if_eq (tgt := 161) hC dX6_next_146 (by decide) (fun c => absurd c (by decide)) (fun _ => ?_)
                refine J_aload_n hC dX6_next_149 1 rfl rfl ?_
                refine J_iconst (v := 2) hC dX6_next_150 rfl ?_
                refine J_put (ws' := scR G s b q 2 (nI z) (nI z) v0) hC wu_X6 rfl tyX6_ok nmX6 dX6_next_151 0 1 (by decide) wf_X6_11 rfl rfl (Nat.le_of_ble_eq_true rfl) rfl rfl rfl ?_
                refine J_aload_n hC dX6_next_154 1 rfl rfl ?_
                refine J_callVv hC dX6_next_155 wl_X6_47 yi_X6_readDigits (c_X6_readDigits _ G s b f q 2 (nI z) z v0 hf hq (by omega)) rfl rfl 0 6 rfl rfl ⟨Nat.le_of_ble_eq_true rfl, Nat.le_of_ble_eq_true rfl⟩ (Nat.le_of_ble_eq_true rfl) (Nat.le_of_ble_eq_true rfl) (Nat.le_of_ble_eq_true rfl) (fun _ _ => ?_)
                refine J_goto (tgt := 176) hC dX6_next_158 (by decide) ?_
                refine J_vret hC hR dX6_next_176 (fo (q_dw f) z ((q_run (fun x => decide (q_dig x)) f (q.2 - z) z) - z) 0) ?_ ?_ (by decide) (by decide)
                · intro hk
                  obtain ⟨hq1, hq2⟩ := q_at_lt rfl c_75
                  obtain ⟨e1, e2, e3, e4⟩ := tok_num hSq hq1 (by rw [hq2]; exact c_87) (by rw [hq2]; exact c_143)
                  rw [tW_of e2, hSq, e1]
                · obtain ⟨hq1, hq2⟩ := q_at_lt rfl c_75
                  obtain ⟨e1, e2, e3, e4⟩ := tok_num hSq hq1 (by rw [hq2]; exact c_87) (by rw [hq2]; exact c_143)
                  rw [scW, hSq, e1, e2]
                  rfl
              · refine J_if_eq (tgt := 161) hC dX6_next_146 (by decide) (fun _ => ?_) (fun c => absurd (by decide) c)
                refine J_aload_n hC dX6_next_161 1 rfl rfl ?_
                refine J_iconst (v := 3) hC dX6_next_162 rfl ?_
                refine J_put (ws' := scR G s b q 3 (nI z) (nI z) v0) hC wu_X6 rfl tyX6_ok nmX6 dX6_next_163 0 1 (by decide) wf_X6_11 rfl rfl (Nat.le_of_ble_eq_true rfl) rfl rfl rfl ?_
                refine J_aload_n hC dX6_next_166 1 rfl rfl ?_
                refine J_dup hC dX6_next_167 rfl ?_
                refine J_get (v := .int (nI z)) hC wu_X6 rfl dX6_next_168 0 3 (by decide) wf_X6_18 rfl rfl ?_
                refine J_iconst (v := 1) hC dX6_next_171 rfl ?_
                refine J_iadd (v := nI (1 + z)) hC dX6_next_172 ((nI_add z 1).trans (congrArg nI (by omega))) ?_
                refine J_put (ws' := scR G s b q 3 (nI z) (nI (1 + z)) v0) hC wu_X6 rfl tyX6_ok nmX6 dX6_next_173 0 3 (by decide) wf_X6_18 rfl rfl (Nat.le_of_ble_eq_true rfl) rfl rfl rfl ?_
                refine J_vret hC hR dX6_next_176 v0 ?_ ?_ (by decide) (by decide)
                · intro hk
                  exfalso
                  obtain ⟨hq1, hq2⟩ := q_at_lt rfl c_75
                  obtain ⟨e1, e2, e3, e4⟩ := tok_sym hSq hq1 (by rw [hq2]; exact c_87) (by rw [hq2]; exact c_143)
                  rw [e2] at hk
                  exact absurd hk (by decide)
                · obtain ⟨hq1, hq2⟩ := q_at_lt rfl c_75
                  obtain ⟨e1, e2, e3, e4⟩ := tok_sym hSq hq1 (by rw [hq2]; exact c_87) (by rw [hq2]; exact c_143)
                  rw [scW, hSq, e1, e2]
                  rw [Nat.add_comm 1 z]
                  rfl
          · refine J_aload_n hC dX6_next_78 1 rfl rfl ?_
            refine J_iconst (v := 0) hC dX6_next_79 rfl ?_
            refine J_put (ws' := scR G s b q 0 (nI z) (nI z) v0) hC wu_X6 rfl tyX6_ok nmX6 dX6_next_80 0 1 (by decide) wf_X6_11 rfl rfl (Nat.le_of_ble_eq_true rfl) rfl rfl rfl ?_
            refine J_goto (tgt := 176) hC dX6_next_83 (by decide) ?_
            refine J_vret hC hR dX6_next_176 v0 ?_ ?_ (by decide) (by decide)
            · intro hk
              exfalso
              obtain ⟨e1, e2, e3, e4⟩ := tok_end hSq (q_at_ge (hfi_of hf) c_75)
              rw [e2] at hk
              exact absurd hk (by decide)
            · obtain ⟨e1, e2, e3, e4⟩ := tok_end hSq (q_at_ge (hfi_of hf) c_75)
              rw [scW, hSq, e1, e2]
              rfl
        · refine J_aload_n hC dX6_next_22 0 rfl rfl ?_
          refine J_aload_n hC dX6_next_23 0 rfl rfl ?_
          refine J_get (v := .ref (b 0)) hC wu_X6 rfl dX6_next_24 0 0 (by decide) wf_X6_24 rfl rfl ?_
          refine J_aload_n hC dX6_next_27 0 rfl rfl ?_
          refine J_get (v := .int (nI z)) hC wu_X6 rfl dX6_next_28 0 2 (by decide) wf_X6_15 rfl rfl ?_
          refine J_callVi hC dX6_next_31 wl_X6_33 yi_X1_at (cons_i (c_X1_at _ G b q f z hf (by omega) (by omega))) rfl rfl 1 1 rfl rfl ⟨Nat.le_of_ble_eq_true rfl, Nat.le_of_ble_eq_true rfl⟩ (Nat.le_of_ble_eq_true rfl) (Nat.le_of_ble_eq_true rfl) (Nat.le_of_ble_eq_true rfl) (fun r u h_31 => ?_)
          subst h_31
          refine J_callVi hC dX6_next_34 wl_X6_37 yi_X6_isBlank (c_X6_isBlank _ G (scR G s b q k0 (nI z) (nI p) v0) s (q_at f q.2 z)) rfl rfl 0 6 rfl rfl ⟨Nat.le_of_ble_eq_true rfl, Nat.le_of_ble_eq_true rfl⟩ (Nat.le_of_ble_eq_true rfl) (Nat.le_of_ble_eq_true rfl) (Nat.le_of_ble_eq_true rfl) (fun r u h_34 => ?_)
          rcases h_34 with ⟨rfl, c_34⟩ | ⟨rfl, c_34⟩
          · refine J_if_eq (tgt := 53) hC dX6_next_37 (by decide) (fun c => absurd c (by decide)) (fun _ => ?_)
            have hgo := q_at_go (P := (fun x => decide (q_bl x))) (f := f) (il := q.2) (q := z) (by decide) (decide_eq_true c_34)
            refine J_aload_n hC dX6_next_40 0 rfl rfl ?_
            refine J_dup hC dX6_next_41 rfl ?_
            refine J_get (v := .int (nI z)) hC wu_X6 rfl dX6_next_42 0 2 (by decide) wf_X6_15 rfl rfl ?_
            refine J_iconst (v := 1) hC dX6_next_45 rfl ?_
            refine J_iadd (v := nI (1 + z)) hC dX6_next_46 ((nI_add z 1).trans (congrArg nI (by omega))) ?_
            refine J_put (ws' := scR G s b q k0 (nI (1 + z)) (nI p) v0) hC wu_X6 rfl tyX6_ok nmX6 dX6_next_47 0 2 (by decide) wf_X6_15 rfl rfl (Nat.le_of_ble_eq_true rfl) rfl rfl rfl ?_
            refine J_goto (tgt := 8) hC dX6_next_50 (by decide) ?_
            exact ih.1 (1 + z) (by omega) (hI.trans (hgo.2.2.trans (by rw [Nat.add_comm 1 z]))) (by omega)
          · refine J_if_eq (tgt := 53) hC dX6_next_37 (by decide) (fun _ => ?_) (fun c => absurd (by decide) c)
            have hSq : tS f q.2 p = z := hI.trans (q_at_run (P := (fun x => decide (q_bl x))) (decide_eq_false c_34))
            refine J_aload_n hC dX6_next_53 0 rfl rfl ?_
            refine J_aload_n hC dX6_next_54 0 rfl rfl ?_
            refine J_get (v := .int (nI z)) hC wu_X6 rfl dX6_next_55 0 2 (by decide) wf_X6_15 rfl rfl ?_
            refine J_put (ws' := scR G s b q k0 (nI z) (nI z) v0) hC wu_X6 rfl tyX6_ok nmX6 dX6_next_58 0 3 (by decide) wf_X6_18 rfl rfl (Nat.le_of_ble_eq_true rfl) rfl rfl rfl ?_
            refine J_aload_n hC dX6_next_61 0 rfl rfl ?_
            refine J_get (v := .ref (b 0)) hC wu_X6 rfl dX6_next_62 0 0 (by decide) wf_X6_24 rfl rfl ?_
            refine J_aload_n hC dX6_next_65 0 rfl rfl ?_
            refine J_get (v := .int (nI z)) hC wu_X6 rfl dX6_next_66 0 2 (by decide) wf_X6_15 rfl rfl ?_
            refine J_callVi hC dX6_next_69 wl_X6_33 yi_X1_at (cons_i (c_X1_at _ G b q f z hf (by omega) (by omega))) rfl rfl 1 1 rfl rfl ⟨Nat.le_of_ble_eq_true rfl, Nat.le_of_ble_eq_true rfl⟩ (Nat.le_of_ble_eq_true rfl) (Nat.le_of_ble_eq_true rfl) (Nat.le_of_ble_eq_true rfl) (fun r u h_69 => ?_)
            subst h_69
            refine J_istore_n hC [(1, .int (q_at f q.2 z)), (0, .ref s)] dX6_next_72 rfl (by decide) rfl ?_
            refine J_iload_n hC dX6_next_73 0 rfl rfl ?_
            refine J_iconst (v := (-1)) hC dX6_next_74 rfl ?_
            refine J_ic_ne (tgt := 86) hC dX6_next_75 (by decide) (fun (c_75 : ¬ (q_at f q.2 z) = (-1)) => ?_) (fun (c_75 : (q_at f q.2 z) = (-1)) => ?_)
            · refine J_iload_n hC dX6_next_86 0 rfl rfl ?_
              refine J_callSNi hC dX6_next_87 wln_X6_41 yi_X10_isLetter (c_X10_isLetter _ G (scR G s b q k0 (nI z) (nI z) v0) (q_at f q.2 z)) rfl rfl ⟨Nat.le_of_ble_eq_true rfl, Nat.le_of_ble_eq_true rfl⟩ (Nat.le_of_ble_eq_true rfl) (Nat.le_of_ble_eq_true rfl) (Nat.le_of_ble_eq_true rfl) (fun r u h_87 => ?_)
              rcases h_87 with ⟨rfl, c_87⟩ | ⟨rfl, c_87⟩
              · refine J_if_eq (tgt := 142) hC dX6_next_90 (by decide) (fun c => absurd c (by decide)) (fun _ => ?_)
                have hql := q_at_lt rfl c_75
                have hlq : z < q.2 ∧ q_let (f z) := ⟨hql.1, by rw [hql.2]; exact c_87⟩
                refine J_aload_n hC dX6_next_93 1 rfl rfl ?_
                refine J_iconst (v := 1) hC dX6_next_94 rfl ?_
                refine J_put (ws' := scR G s b q 1 (nI z) (nI z) v0) hC wu_X6 rfl tyX6_ok nmX6 dX6_next_95 0 1 (by decide) wf_X6_11 rfl rfl (Nat.le_of_ble_eq_true rfl) rfl rfl rfl ?_
                refine J_lv (lv' := [(0, .ref s), (1, .int (q_at f q.2 z))]) [1, 0] rfl ?_
                exact ih.2 z z (hSq) (hlq) (by have := hlq.1; omega) (rfl) (by omega)
              · refine J_if_eq (tgt := 142) hC dX6_next_90 (by decide) (fun _ => ?_) (fun c => absurd (by decide) c)
                refine J_iload_n hC dX6_next_142 0 rfl rfl ?_
                refine J_callSNi hC dX6_next_143 wln_X6_44 yi_X10_isDigit (c_X10_isDigit _ G (scR G s b q k0 (nI z) (nI z) v0) (q_at f q.2 z)) rfl rfl ⟨Nat.le_of_ble_eq_true rfl, Nat.le_of_ble_eq_true rfl⟩ (Nat.le_of_ble_eq_true rfl) (Nat.le_of_ble_eq_true rfl) (Nat.le_of_ble_eq_true rfl) (fun r u h_143 => ?_)
                rcases h_143 with ⟨rfl, c_143⟩ | ⟨rfl, c_143⟩
                · refine J_if_eq (tgt := 161) hC dX6_next_146 (by decide) (fun c => absurd c (by decide)) (fun _ => ?_)
                  refine J_aload_n hC dX6_next_149 1 rfl rfl ?_
                  refine J_iconst (v := 2) hC dX6_next_150 rfl ?_
                  refine J_put (ws' := scR G s b q 2 (nI z) (nI z) v0) hC wu_X6 rfl tyX6_ok nmX6 dX6_next_151 0 1 (by decide) wf_X6_11 rfl rfl (Nat.le_of_ble_eq_true rfl) rfl rfl rfl ?_
                  refine J_aload_n hC dX6_next_154 1 rfl rfl ?_
                  refine J_callVv hC dX6_next_155 wl_X6_47 yi_X6_readDigits (c_X6_readDigits _ G s b f q 2 (nI z) z v0 hf hq (by omega)) rfl rfl 0 6 rfl rfl ⟨Nat.le_of_ble_eq_true rfl, Nat.le_of_ble_eq_true rfl⟩ (Nat.le_of_ble_eq_true rfl) (Nat.le_of_ble_eq_true rfl) (Nat.le_of_ble_eq_true rfl) (fun _ _ => ?_)
                  refine J_goto (tgt := 176) hC dX6_next_158 (by decide) ?_
                  refine J_vret hC hR dX6_next_176 (fo (q_dw f) z ((q_run (fun x => decide (q_dig x)) f (q.2 - z) z) - z) 0) ?_ ?_ (by decide) (by decide)
                  · intro hk
                    obtain ⟨hq1, hq2⟩ := q_at_lt rfl c_75
                    obtain ⟨e1, e2, e3, e4⟩ := tok_num hSq hq1 (by rw [hq2]; exact c_87) (by rw [hq2]; exact c_143)
                    rw [tW_of e2, hSq, e1]
                  · obtain ⟨hq1, hq2⟩ := q_at_lt rfl c_75
                    obtain ⟨e1, e2, e3, e4⟩ := tok_num hSq hq1 (by rw [hq2]; exact c_87) (by rw [hq2]; exact c_143)
                    rw [scW, hSq, e1, e2]
                    rfl
                · refine J_if_eq (tgt := 161) hC dX6_next_146 (by decide) (fun _ => ?_) (fun c => absurd (by decide) c)
                  refine J_aload_n hC dX6_next_161 1 rfl rfl ?_
                  refine J_iconst (v := 3) hC dX6_next_162 rfl ?_
                  refine J_put (ws' := scR G s b q 3 (nI z) (nI z) v0) hC wu_X6 rfl tyX6_ok nmX6 dX6_next_163 0 1 (by decide) wf_X6_11 rfl rfl (Nat.le_of_ble_eq_true rfl) rfl rfl rfl ?_
                  refine J_aload_n hC dX6_next_166 1 rfl rfl ?_
                  refine J_dup hC dX6_next_167 rfl ?_
                  refine J_get (v := .int (nI z)) hC wu_X6 rfl dX6_next_168 0 3 (by decide) wf_X6_18 rfl rfl ?_
                  refine J_iconst (v := 1) hC dX6_next_171 rfl ?_
                  refine J_iadd (v := nI (1 + z)) hC dX6_next_172 ((nI_add z 1).trans (congrArg nI (by omega))) ?_
                  refine J_put (ws' := scR G s b q 3 (nI z) (nI (1 + z)) v0) hC wu_X6 rfl tyX6_ok nmX6 dX6_next_173 0 3 (by decide) wf_X6_18 rfl rfl (Nat.le_of_ble_eq_true rfl) rfl rfl rfl ?_
                  refine J_vret hC hR dX6_next_176 v0 ?_ ?_ (by decide) (by decide)
                  · intro hk
                    exfalso
                    obtain ⟨hq1, hq2⟩ := q_at_lt rfl c_75
                    obtain ⟨e1, e2, e3, e4⟩ := tok_sym hSq hq1 (by rw [hq2]; exact c_87) (by rw [hq2]; exact c_143)
                    rw [e2] at hk
                    exact absurd hk (by decide)
                  · obtain ⟨hq1, hq2⟩ := q_at_lt rfl c_75
                    obtain ⟨e1, e2, e3, e4⟩ := tok_sym hSq hq1 (by rw [hq2]; exact c_87) (by rw [hq2]; exact c_143)
                    rw [scW, hSq, e1, e2]
                    rw [Nat.add_comm 1 z]
                    rfl
            · refine J_aload_n hC dX6_next_78 1 rfl rfl ?_
              refine J_iconst (v := 0) hC dX6_next_79 rfl ?_
              refine J_put (ws' := scR G s b q 0 (nI z) (nI z) v0) hC wu_X6 rfl tyX6_ok nmX6 dX6_next_80 0 1 (by decide) wf_X6_11 rfl rfl (Nat.le_of_ble_eq_true rfl) rfl rfl rfl ?_
              refine J_goto (tgt := 176) hC dX6_next_83 (by decide) ?_
              refine J_vret hC hR dX6_next_176 v0 ?_ ?_ (by decide) (by decide)
              · intro hk
                exfalso
                obtain ⟨e1, e2, e3, e4⟩ := tok_end hSq (q_at_ge (hfi_of hf) c_75)
                rw [e2] at hk
                exact absurd hk (by decide)
              · obtain ⟨e1, e2, e3, e4⟩ := tok_end hSq (q_at_ge (hfi_of hf) c_75)
                rw [scW, hSq, e1, e2]
                rfl
      · intro z y hS hl hy hJ hmu
        refine J_aload_n hC dX6_next_98 0 rfl rfl ?_
        refine J_get (v := .int (nI y)) hC wu_X6 rfl dX6_next_99 0 3 (by decide) wf_X6_18 rfl rfl ?_
        refine J_aload_n hC dX6_next_102 0 rfl rfl ?_
        refine J_get (v := .ref (b 0)) hC wu_X6 rfl dX6_next_103 0 0 (by decide) wf_X6_24 rfl rfl ?_
        refine J_get (v := .int (nI q.2)) hC wu_X1 rfl dX6_next_106 1 1 (by decide) wf_X6_28 rfl rfl ?_
        refine J_ic_geN (a := y) (b := q.2) (tgt := 176) hC dX6_next_109 (by decide) (by omega) (by omega) (fun (c_109 : q.2 ≤ y) => ?_) (fun (c_109 : y < q.2) => ?_)
        · refine J_vret hC hR dX6_next_176 v0 ?_ ?_ (by decide) (by decide)
          · intro hk
            exfalso
            obtain ⟨e1, e2, e3, e4⟩ := tok_word hS hl.1 hl.2
            rw [e2] at hk
            exact absurd hk (by decide)
          · obtain ⟨e1, e2, e3, e4⟩ := tok_word hS hl.1 hl.2
            rw [hJ, q_run_end c_109] at e1
            rw [scW, hS, e1, e2]
            rfl
        · refine J_aload_n hC dX6_next_112 0 rfl rfl ?_
          refine J_get (v := .ref (b 0)) hC wu_X6 rfl dX6_next_113 0 0 (by decide) wf_X6_24 rfl rfl ?_
          refine J_aload_n hC dX6_next_116 0 rfl rfl ?_
          refine J_get (v := .int (nI y)) hC wu_X6 rfl dX6_next_117 0 3 (by decide) wf_X6_18 rfl rfl ?_
          refine J_callVi hC dX6_next_120 wl_X6_33 yi_X1_at (cons_i (c_X1_at _ G b q f y hf (by omega) (by omega))) rfl rfl 1 1 rfl rfl ⟨Nat.le_of_ble_eq_true rfl, Nat.le_of_ble_eq_true rfl⟩ (Nat.le_of_ble_eq_true rfl) (Nat.le_of_ble_eq_true rfl) (Nat.le_of_ble_eq_true rfl) (fun r u h_120 => ?_)
          subst h_120
          refine J_callSNi hC dX6_next_123 wln_X6_41 yi_X10_isLetter (c_X10_isLetter _ G (scR G s b q 1 (nI z) (nI y) v0) (q_at f q.2 y)) rfl rfl ⟨Nat.le_of_ble_eq_true rfl, Nat.le_of_ble_eq_true rfl⟩ (Nat.le_of_ble_eq_true rfl) (Nat.le_of_ble_eq_true rfl) (Nat.le_of_ble_eq_true rfl) (fun r u h_123 => ?_)
          rcases h_123 with ⟨rfl, c_123⟩ | ⟨rfl, c_123⟩
          · refine J_if_eq (tgt := 176) hC dX6_next_126 (by decide) (fun c => absurd c (by decide)) (fun _ => ?_)
            have hgo := q_at_go (P := (fun x => decide (q_let x))) (f := f) (il := q.2) (q := y) (by decide) (decide_eq_true c_123)
            refine J_aload_n hC dX6_next_129 0 rfl rfl ?_
            refine J_dup hC dX6_next_130 rfl ?_
            refine J_get (v := .int (nI y)) hC wu_X6 rfl dX6_next_131 0 3 (by decide) wf_X6_18 rfl rfl ?_
            refine J_iconst (v := 1) hC dX6_next_134 rfl ?_
            refine J_iadd (v := nI (1 + y)) hC dX6_next_135 ((nI_add y 1).trans (congrArg nI (by omega))) ?_
            refine J_put (ws' := scR G s b q 1 (nI z) (nI (1 + y)) v0) hC wu_X6 rfl tyX6_ok nmX6 dX6_next_136 0 3 (by decide) wf_X6_18 rfl rfl (Nat.le_of_ble_eq_true rfl) rfl rfl rfl ?_
            refine J_goto (tgt := 98) hC dX6_next_139 (by decide) ?_
            exact ih.2 z (1 + y) (hS) (hl) (by have := hgo.1; omega) (hJ.trans (hgo.2.2.trans (by rw [Nat.add_comm 1 y]))) (by omega)
          · refine J_if_eq (tgt := 176) hC dX6_next_126 (by decide) (fun _ => ?_) (fun c => absurd (by decide) c)
            refine J_vret hC hR dX6_next_176 v0 ?_ ?_ (by decide) (by decide)
            · intro hk
              exfalso
              obtain ⟨e1, e2, e3, e4⟩ := tok_word hS hl.1 hl.2
              rw [e2] at hk
              exact absurd hk (by decide)
            · obtain ⟨e1, e2, e3, e4⟩ := tok_word hS hl.1 hl.2
              rw [hJ, q_at_run (P := (fun x => decide (q_let x))) (decide_eq_false c_123)] at e1
              rw [scW, hS, e1, e2]
              rfl
  refine J_aload_n hC dX6_next_0 0 rfl rfl ?_
  refine J_aload_n hC dX6_next_1 0 rfl rfl ?_
  refine J_get (v := .int (nI p)) hC wu_X6 rfl dX6_next_2 0 3 (by decide) wf_X6_18 rfl rfl ?_
  refine J_put (ws' := scR G s b q k0 (nI p) (nI p) v0) hC wu_X6 rfl tyX6_ok nmX6 dX6_next_5 0 2 (by decide) wf_X6_15 rfl rfl (Nat.le_of_ble_eq_true rfl) rfl rfl rfl ?_
  exact ((key _).1) p (by omega) (rfl) (Nat.lt_succ_self _)

set_option maxRecDepth 100000 in
set_option maxHeartbeats 4000000 in
theorem c_X6_name (l : Launch) (G : gT) (s : Nat) (b : Nat → Nat) (f : RT) (q : RT × Nat) (e : Nat) (v0 : Int32) (hf : ∀ j, j < q.2 → q.1 j &&& 255 = f j) (hq : q.2 ≤ 600) (he : e ≤ q.2) : MI l yX6_name cX6_name 1 (some .int) { frames := 2, cells := 0, slots := 0, locals := 46 } [.ref (s)] G (scW G s b f q e v0) (fun r (_ : Unit) => r = b_nm f q.2 (tS f q.2 e) (tE f q.2 e)) (fun _ => scW G s b f q e v0) := by
  refine jm_i (own := RX6) (by decide) rfl (Nat.le_of_ble_eq_true rfl) (fun x hl hC hR hN => ?_)
  subst hl
  have hb := tok_b f he hq
  have hte := tE_le f q.2 e he
  refine J_aload_n hC dX6_name_0 0 rfl rfl ?_
  refine J_get (v := .ref (b 0)) hC wu_X6 rfl dX6_name_1 0 0 (by decide) wf_X6_24 rfl rfl ?_
  refine J_aload_n hC dX6_name_4 0 rfl rfl ?_
  refine J_get (v := .int (nI (tS f q.2 e))) hC wu_X6 rfl dX6_name_5 0 2 (by decide) wf_X6_15 rfl rfl ?_
  refine J_aload_n hC dX6_name_8 0 rfl rfl ?_
  refine J_get (v := .int (nI (tE f q.2 e))) hC wu_X6 rfl dX6_name_9 0 3 (by decide) wf_X6_18 rfl rfl ?_
  refine J_callVi hC dX6_name_12 wl_X6_66 yi_X1_nameBetween (cons_i (c_X1_nameBetween _ G b q f (tS f q.2 e) (tE f q.2 e) hf (by omega) (by omega) (by omega))) rfl rfl 1 1 rfl rfl ⟨Nat.le_of_ble_eq_true rfl, Nat.le_of_ble_eq_true rfl⟩ (Nat.le_of_ble_eq_true rfl) (Nat.le_of_ble_eq_true rfl) (Nat.le_of_ble_eq_true rfl) (fun r u h_12 => ?_)
  subst h_12
  refine J_iret hC hR dX6_name_15 rfl () ?_ ?_ (by decide) (by decide)
  · rfl
  · rfl

set_option maxRecDepth 100000 in
set_option maxHeartbeats 4000000 in
theorem c_X6_isSemicolon (l : Launch) (G : gT) (s : Nat) (b : Nat → Nat) (f : RT) (q : RT × Nat) (e : Nat) (v0 : Int32) (hf : ∀ j, j < q.2 → q.1 j &&& 255 = f j) (hq : q.2 ≤ 600) (he : e ≤ q.2) : MI l yX6_isSemicolon cX6_isSemicolon 1 (some .boolean) { frames := 1, cells := 0, slots := 0, locals := 21 } [.ref (s)] G (scW G s b f q e v0) (fun r (_ : Unit) => (r = 1 ∧ p_semi f q.2 e) ∨ (r = 0 ∧ ¬ (p_semi f q.2 e))) (fun _ => scW G s b f q e v0) := by
  refine jm_i (own := RX6) (by decide) rfl (Nat.le_of_ble_eq_true rfl) (fun x hl hC hR hN => ?_)
  subst hl
  have hb := tok_b f he hq
  refine J_aload_n hC dX6_isSemicolon_0 0 rfl rfl ?_
  refine J_get (v := .int (kC (tK f q.2 e))) hC wu_X6 rfl dX6_isSemicolon_1 0 1 (by decide) wf_X6_11 rfl rfl ?_
  refine J_iconst (v := 3) hC dX6_isSemicolon_4 rfl ?_
  refine J_ic_ne (tgt := 28) hC dX6_isSemicolon_5 (by decide) (fun (c_5 : ¬ (kC (tK f q.2 e)) = 3) => ?_) (fun (c_5 : (kC (tK f q.2 e)) = 3) => ?_)
  · refine J_iconst (v := 0) hC dX6_isSemicolon_28 rfl ?_
    refine J_iret hC hR dX6_isSemicolon_29 rfl () ?_ ?_ (by decide) (by decide)
    · exact Or.inr ⟨rfl, fun h => c_5 ((kC_3 (tK_le3 f q.2 e)).mpr h.1)⟩
    · rfl
  · refine J_aload_n hC dX6_isSemicolon_8 0 rfl rfl ?_
    refine J_get (v := .ref (b 0)) hC wu_X6 rfl dX6_isSemicolon_9 0 0 (by decide) wf_X6_24 rfl rfl ?_
    refine J_aload_n hC dX6_isSemicolon_12 0 rfl rfl ?_
    refine J_get (v := .int (nI (tS f q.2 e))) hC wu_X6 rfl dX6_isSemicolon_13 0 2 (by decide) wf_X6_15 rfl rfl ?_
    refine J_callVi hC dX6_isSemicolon_16 wl_X6_33 yi_X1_at (cons_i (c_X1_at _ G b q f (tS f q.2 e) hf (by omega) (by omega))) rfl rfl 1 1 rfl rfl ⟨Nat.le_of_ble_eq_true rfl, Nat.le_of_ble_eq_true rfl⟩ (Nat.le_of_ble_eq_true rfl) (Nat.le_of_ble_eq_true rfl) (Nat.le_of_ble_eq_true rfl) (fun r u h_16 => ?_)
    subst h_16
    refine J_bipush (v := 59) hC dX6_isSemicolon_19 (by decide +kernel) ?_
    refine J_ic_ne (tgt := 28) hC dX6_isSemicolon_21 (by decide) (fun (c_21 : ¬ (q_at f q.2 (tS f q.2 e)) = 59) => ?_) (fun (c_21 : (q_at f q.2 (tS f q.2 e)) = 59) => ?_)
    · refine J_iconst (v := 0) hC dX6_isSemicolon_28 rfl ?_
      refine J_iret hC hR dX6_isSemicolon_29 rfl () ?_ ?_ (by decide) (by decide)
      · exact Or.inr ⟨rfl, fun h => c_21 (by rw [q_at, if_pos (tK_pos f q.2 e (by rw [h.1]; decide))]; exact h.2)⟩
      · rfl
    · refine J_iconst (v := 1) hC dX6_isSemicolon_24 rfl ?_
      refine J_goto (tgt := 29) hC dX6_isSemicolon_25 (by decide) ?_
      refine J_iret hC hR dX6_isSemicolon_29 rfl () ?_ ?_ (by decide) (by decide)
      · have hk := (kC_3 (tK_le3 f q.2 e)).mp c_5
        exact Or.inl ⟨rfl, hk, (q_at_lt rfl (by rw [c_21]; decide)).2.trans c_21⟩
      · rfl

set_option maxRecDepth 100000 in
set_option maxHeartbeats 4000000 in
theorem c_X6_isWord (l : Launch) (G : gT) (s : Nat) (b : Nat → Nat) (f : RT) (q : RT × Nat) (e : Nat) (v0 : Int32) (i : Nat) (hf : ∀ j, j < q.2 → q.1 j &&& 255 = f j) (hq : q.2 ≤ 600) (he : e ≤ q.2) (hi : i < 14) : MI l yX6_isWord cX6_isWord 3 (some .boolean) { frames := 4, cells := 0, slots := 0, locals := 85 } [.ref (s), .ref ((G.2.2.1 i))] G (scW G s b f q e v0) (fun r (_ : Unit) => (r = 1 ∧ tIs f q.2 e i) ∨ (r = 0 ∧ ¬ (tIs f q.2 e i))) (fun _ => scW G s b f q e v0) := by
  refine jm_i (own := RX6) (by decide) rfl (Nat.le_of_ble_eq_true rfl) (fun x hl hC hR hN => ?_)
  subst hl
  have hb := tok_b f he hq
  have hn := SKn_le i hi
  have hte := tE_le f q.2 e he
  have hle := tL_le f q.2 e he
  have key : ∀ fuel : Nat, (∀ (j : Nat), (tK f q.2 e = 3) → (tL f q.2 e = SKn.getD i 0) → (j ≤ SKn.getD i 0) → (∀ z, z < j → f (tS f q.2 e + z) = sk_ch i z) → 1000 - j < fuel → J x G (scW G s b f q e v0) 0 0 [(0, .ref s), (1, .ref (G.2.2.1 i)), (2, .int (nI j))] [] 28) := by
    intro fuel
    induction fuel with
    | zero => exact fun _ _ _ _ _ h => absurd h (Nat.not_lt_zero _)
    | succ fuel ih =>
      intro j hk hL hj hA hmu
      refine J_iload_n hC dX6_isWord_28 2 rfl rfl ?_
      refine J_aload_n hC dX6_isWord_29 1 rfl rfl ?_
      refine J_callVis (i := i) hC dX6_isWord_30 wl_X6_57 yi_J0_length_8abf5 (c_J0_length_8abf5 _ G (scW G s b f q e v0) i hi) rfl rfl hi ⟨Nat.le_of_ble_eq_true rfl, Nat.le_of_ble_eq_true rfl⟩ (Nat.le_of_ble_eq_true rfl) (Nat.le_of_ble_eq_true rfl) (Nat.le_of_ble_eq_true rfl) (fun r u h_30 => ?_)
      subst h_30
      refine J_ic_geN (a := j) (b := SKn.getD i 0) (tgt := 65) hC dX6_isWord_33 (by decide) (by omega) (by omega) (fun (c_33 : (SKn.getD i 0) ≤ j) => ?_) (fun (c_33 : j < (SKn.getD i 0)) => ?_)
      · refine J_iconst (v := 1) hC dX6_isWord_65 rfl ?_
        refine J_iret hC hR dX6_isWord_66 rfl () ?_ ?_ (by decide) (by decide)
        · exact Or.inl ⟨rfl, hk, hL, fun z hz => hA z (by omega)⟩
        · rfl
      · refine J_aload_n hC dX6_isWord_36 0 rfl rfl ?_
        refine J_get (v := .ref (b 0)) hC wu_X6 rfl dX6_isWord_37 0 0 (by decide) wf_X6_24 rfl rfl ?_
        refine J_aload_n hC dX6_isWord_40 0 rfl rfl ?_
        refine J_get (v := .int (nI (tS f q.2 e))) hC wu_X6 rfl dX6_isWord_41 0 2 (by decide) wf_X6_15 rfl rfl ?_
        refine J_iload_n hC dX6_isWord_44 2 rfl rfl ?_
        refine J_iadd (v := nI ((tS f q.2 e) + j)) hC dX6_isWord_45 (nI_add (tS f q.2 e) j) ?_
        have hat : q_at f q.2 (tS f q.2 e + j) = f (tS f q.2 e + j) := by rw [q_at, if_pos (by have := tL_le f q.2 e he; omega)]
        refine J_callVi hC dX6_isWord_46 wl_X6_33 yi_X1_at (cons_i (c_X1_at _ G b q f ((tS f q.2 e) + j) hf (by omega) (by omega))) rfl rfl 1 1 rfl rfl ⟨Nat.le_of_ble_eq_true rfl, Nat.le_of_ble_eq_true rfl⟩ (Nat.le_of_ble_eq_true rfl) (Nat.le_of_ble_eq_true rfl) (Nat.le_of_ble_eq_true rfl) (fun r u h_46 => ?_)
        subst h_46
        refine J_aload_n hC dX6_isWord_49 1 rfl rfl ?_
        refine J_iload_n hC dX6_isWord_50 2 rfl rfl ?_
        refine J_callVis (i := i) hC dX6_isWord_51 wl_X6_62 yi_J0_charAt_5068e (c_J0_charAt_5068e _ G (scW G s b f q e v0) i j hi (by omega)) rfl rfl hi ⟨Nat.le_of_ble_eq_true rfl, Nat.le_of_ble_eq_true rfl⟩ (Nat.le_of_ble_eq_true rfl) (Nat.le_of_ble_eq_true rfl) (Nat.le_of_ble_eq_true rfl) (fun r u h_51 => ?_)
        subst h_51
        refine J_ic_eq (tgt := 59) hC dX6_isWord_54 (by decide) (fun (c_54 : (q_at f q.2 ((tS f q.2 e) + j)) = (sk_ch i j)) => ?_) (fun (c_54 : ¬ (q_at f q.2 ((tS f q.2 e) + j)) = (sk_ch i j)) => ?_)
        · refine J_iinc hC [(2, .int (nI (j + 1))), (0, .ref s), (1, .ref (G.2.2.1 i))] dX6_isWord_59 2 rfl (nI_inc _) (by decide) rfl ?_
          refine J_goto (tgt := 28) hC dX6_isWord_62 (by decide) ?_
          refine J_lv (lv' := [(0, .ref s), (1, .ref (G.2.2.1 i)), (2, .int (nI (j + 1)))]) [1, 2, 0] rfl ?_
          exact ih (j + 1) (hk) (hL) (by omega) (fun z hz => (Nat.lt_succ_iff_lt_or_eq.mp (by omega)).elim (hA z) (fun e9 => by rw [e9]; exact hat.symm.trans c_54)) (by omega)
        · refine J_iconst (v := 0) hC dX6_isWord_57 rfl ?_
          refine J_iret hC hR dX6_isWord_58 rfl () ?_ ?_ (by decide) (by decide)
          · exact Or.inr ⟨rfl, fun h => c_54 ((hat).trans (h.2.2 j (by omega)))⟩
          · rfl
  refine J_aload_n hC dX6_isWord_0 0 rfl rfl ?_
  refine J_get (v := .int (kC (tK f q.2 e))) hC wu_X6 rfl dX6_isWord_1 0 1 (by decide) wf_X6_11 rfl rfl ?_
  refine J_iconst (v := 1) hC dX6_isWord_4 rfl ?_
  refine J_ic_ne (tgt := 24) hC dX6_isWord_5 (by decide) (fun (c_5 : ¬ (kC (tK f q.2 e)) = 1) => ?_) (fun (c_5 : (kC (tK f q.2 e)) = 1) => ?_)
  · refine J_iconst (v := 0) hC dX6_isWord_24 rfl ?_
    refine J_iret hC hR dX6_isWord_25 rfl () ?_ ?_ (by decide) (by decide)
    · exact Or.inr ⟨rfl, fun h => c_5 ((kC_1 (tK_le3 f q.2 e)).mpr h.1)⟩
    · rfl
  · refine J_aload_n hC dX6_isWord_8 0 rfl rfl ?_
    refine J_get (v := .int (nI (tE f q.2 e))) hC wu_X6 rfl dX6_isWord_9 0 3 (by decide) wf_X6_18 rfl rfl ?_
    refine J_aload_n hC dX6_isWord_12 0 rfl rfl ?_
    refine J_get (v := .int (nI (tS f q.2 e))) hC wu_X6 rfl dX6_isWord_13 0 2 (by decide) wf_X6_15 rfl rfl ?_
    refine J_isub (v := nI ((tE f q.2 e) - (tS f q.2 e))) hC dX6_isWord_16 (pk_sub (a := (tE f q.2 e)) (b := (tS f q.2 e)) (by omega)) ?_
    refine J_aload_n hC dX6_isWord_17 1 rfl rfl ?_
    refine J_callVis (i := i) hC dX6_isWord_18 wl_X6_57 yi_J0_length_8abf5 (c_J0_length_8abf5 _ G (scW G s b f q e v0) i hi) rfl rfl hi ⟨Nat.le_of_ble_eq_true rfl, Nat.le_of_ble_eq_true rfl⟩ (Nat.le_of_ble_eq_true rfl) (Nat.le_of_ble_eq_true rfl) (Nat.le_of_ble_eq_true rfl) (fun r u h_18 => ?_)
    subst h_18
    refine J_ic_eqN (a := (tE f q.2 e) - (tS f q.2 e)) (b := SKn.getD i 0) (tgt := 26) hC dX6_isWord_21 (by decide) (by omega) (by omega) (fun (c_21 : ((tE f q.2 e) - (tS f q.2 e)) = (SKn.getD i 0)) => ?_) (fun (c_21 : ¬ ((tE f q.2 e) - (tS f q.2 e)) = (SKn.getD i 0)) => ?_)
    · refine J_iconst (v := 0) hC dX6_isWord_26 rfl ?_
      refine J_istore_n hC [(2, .int 0), (0, .ref s), (1, .ref (G.2.2.1 i))] dX6_isWord_27 rfl (by decide) rfl ?_
      refine J_lv (lv' := [(0, .ref s), (1, .ref (G.2.2.1 i)), (2, .int 0)]) [1, 2, 0] rfl ?_
      exact (key _) 0 ((kC_1 (tK_le3 f q.2 e)).mp c_5) (by rw [tL, if_pos ((kC_1 (tK_le3 f q.2 e)).mp c_5)]; exact c_21) (by omega) (fun z hz => absurd hz (Nat.not_lt_zero _)) (Nat.lt_succ_self _)
    · refine J_iconst (v := 0) hC dX6_isWord_24 rfl ?_
      refine J_iret hC hR dX6_isWord_25 rfl () ?_ ?_ (by decide) (by decide)
      · exact Or.inr ⟨rfl, fun h => c_21 (by rw [← h.2.1, tL, if_pos h.1])⟩
      · rfl


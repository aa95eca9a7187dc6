/-! THE HAND: passes -/
theorem fg_case (f : Nat → Int32) : s_fg f = if f 1 ≤ f 0 ∧ f 2 ≤ f 0 then 0 else if f 2 ≤ f 1 then 1 else 2 := by
  simp only [s_fg, fo]
  by_cases h1 : f 1 ≤ f 0
  · rw [if_pos h1]
    by_cases h2 : f 2 ≤ f 0
    · rw [if_pos h2, if_pos ⟨h1, h2⟩]
    · rw [if_neg h2, if_neg (fun h => h2 h.2), if_neg (fun h => h2 (Int32.le_trans h h1))]
  · rw [if_neg h1, if_neg (c := f 1 ≤ f 0 ∧ f 2 ≤ f 0) (fun h => h1 h.1)]
theorem ll_case (f : Nat → Int32) : s_ll f = if f 2 ≤ f 1 ∧ f 2 ≤ f 0 then 2 else if f 1 ≤ f 0 then 1 else 0 := by
  simp only [s_ll, fo]
  by_cases h1 : f 0 < f 1
  · rw [if_pos h1]
    by_cases h2 : f 0 < f 2
    · rw [if_pos h2, if_neg (fun h => Int32.not_le.mpr h2 h.2), if_neg (Int32.not_le.mpr h1)]
    · have h3 := Int32.not_lt.mp h2
      rw [if_neg h2, if_pos ⟨Int32.le_trans h3 (Int32.le_of_lt h1), h3⟩]
  · have h4 := Int32.not_lt.mp h1
    rw [if_neg h1]
    by_cases h2 : f 1 < f 2
    · rw [if_pos h2, if_neg (fun h => Int32.not_le.mpr h2 h.1), if_pos h4]
    · have h3 := Int32.not_lt.mp h2
      rw [if_neg h2, if_pos ⟨h3, Int32.le_trans h3 h4⟩]
theorem HV.per {n mc : Nat} {S : CT} (hS : HV n mc S) {f : Nat} (hf : f < 2) : ¬ S 5 f = 0 ∧ ¬ S 5 f < 1 := by
  obtain ⟨w, pe, so, h1, h2, h3, h5, h6, h7, h8⟩ := hS.2.2.2.2.2.2.1 f hf
  rw [h7]
  exact ⟨nI_ne0 (by omega) (by omega), nI_nlt (a := pe) (b := 1) h2 (by omega)⟩
theorem HV.d1 {n mc dy : Nat} {S : CT} (hS : HV n mc S) (hd : S 16 0 = nI dy) (h : dy + 1 ≤ 1000) : HV n mc (us S 16 0 (S 16 0 + 1)) := ⟨hS.1, hS.2.1, hS.2.2.1, hS.2.2.2.1, hS.2.2.2.2.1, hS.2.2.2.2.2.1, hS.2.2.2.2.2.2.1, hS.2.2.2.2.2.2.2.1, dy + 1, h, by show S 16 0 + 1 = _; rw [hd, nI_1]⟩
theorem fg_ne_ll (f : Nat → Int32) : s_fg f ≠ s_ll f := by
  rw [fg_case, ll_case]
  by_cases h1 : f 1 ≤ f 0 ∧ f 2 ≤ f 0
  · rw [if_pos h1]
    by_cases h2 : f 2 ≤ f 1 ∧ f 2 ≤ f 0
    · rw [if_pos h2]; decide
    · rw [if_neg h2, if_pos h1.1]; decide
  · rw [if_neg h1]
    by_cases h3 : f 2 ≤ f 1
    · rw [if_pos h3]
      by_cases h2 : f 2 ≤ f 1 ∧ f 2 ≤ f 0
      · rw [if_pos h2]; decide
      · rw [if_neg h2]
        by_cases h4 : f 1 ≤ f 0
        · exact absurd ⟨h3, Int32.le_trans h3 h4⟩ h2
        · rw [if_neg h4]; decide
    · rw [if_neg h3, if_neg (fun h => h3 h.1)]
      by_cases h4 : f 1 ≤ f 0
      · rw [if_pos h4]; decide
      · rw [if_neg h4]; decide
theorem upd_self {f : Nat → Int32} {i : Nat} {v : Int32} (h : v = f i) : upd f i v = f := by
  funext j
  unfold upd
  by_cases hj : j = i
  · subst hj; rw [if_pos rfl, h]
  · rw [if_neg hj]
section YEAR
variable {n mc : Nat} {T : CT}
theorem od_up (o : Nat) (ho : o ≤ 20) : ∃ x, 1 ≤ x ∧ x ≤ 20 ∧ (if nI o + 1 < 20 then nI o + 1 else 20) = nI x ∧ (nI o < 20 → nI o + 1 = nI x) ∧ (¬ nI o < 20 → nI o = nI x) := by
  by_cases h : o < 19
  · refine ⟨o + 1, by omega, by omega, ?_, fun _ => nI_1 o, fun h9 => absurd (nI_lt (a := o) (b := 20) (by omega) (by decide)) h9⟩
    rw [nI_1, if_pos (show nI (o + 1) < 20 from nI_lt (a := o + 1) (b := 20) (by omega) (by decide))]
  · by_cases h2 : o = 19
    · subst h2; exact ⟨20, by decide, by decide, by decide, fun _ => by decide, fun h9 => absurd (by decide) h9⟩
    · obtain rfl : o = 20 := by omega
      exact ⟨20, by decide, by decide, by decide, fun h9 => absurd h9 (by decide), fun _ => rfl⟩
theorem od_dn (o : Nat) (ho : o ≤ 20) : ∃ x, x ≤ 20 ∧ (if 0 < nI o - 1 then nI o - 1 else 0) = nI x ∧ (¬ nI o ≤ 0 → nI o - 1 = nI x) ∧ (nI o ≤ 0 → nI o = nI x) := by
  by_cases h : o = 0
  · subst h; exact ⟨0, by decide, by decide, fun h9 => absurd (by decide) h9, fun _ => rfl⟩
  · by_cases h2 : o = 1
    · subst h2; exact ⟨0, by decide, by decide, fun _ => by decide, fun h9 => absurd h9 (by decide)⟩
    · have e : nI o - 1 = nI (o - 1) := pk_sub (a := o) (b := 1) (by omega)
      refine ⟨o - 1, by omega, ?_, fun _ => e, fun h9 => absurd h9 (fun h8 => ?_)⟩
      · rw [e, if_pos (show (0 : Int32) < nI (o - 1) from nI_lt (a := 0) (b := o - 1) (by omega) (by omega))]
      · have h7 := Int32.le_iff_toInt_le.mp h8
        rw [nI_toInt (by omega)] at h7
        have : ((0 : Int32)).toInt = 0 := rfl
        omega
theorem oup (hT : HV n mc T) : s_oddsUp T 8 = upd (T 8) (s_fg (T 9)) (if T 8 (s_fg (T 9)) + 1 < 20 then T 8 (s_fg (T 9)) + 1 else 20) ∧ (∀ r, r ≠ 8 → s_oddsUp T r = T r) ∧ (∀ k, k < 3 → ∃ o, o ≤ 20 ∧ (k = s_fg (T 9) → 1 ≤ o) ∧ s_oddsUp T 8 k = nI o) := by
  obtain ⟨p, t, o, a1, a2, a3, a4, a5, a6, a7⟩ := hT.vil (s_fg_lt (T 9))
  obtain ⟨x, x1, x2, x3, x4, x5⟩ := od_up o a4
  obtain ⟨m, hm⟩ : ∃ m, m = s_fg (T 9) := ⟨_, rfl⟩
  unfold s_oddsUp
  rw [← hm] at a7 ⊢
  have e8 : (if 20 ≤ T 8 m then T else us T 8 m (T 8 m + 1)) 8 = upd (T 8) m (nI x) := by
    by_cases h : 20 ≤ T 8 m
    · rw [if_pos h]
      refine (upd_self ?_).symm
      rw [a7] at h ⊢
      exact (x5 (Int32.not_lt.mpr h)).symm
    · rw [if_neg h]
      show upd (T 8) m (T 8 m + 1) = _
      rw [a7] at h ⊢
      rw [x4 (Int32.not_le.mp h)]
  refine ⟨?_, fun r hr => ?_, fun k hk => ?_⟩
  · rw [e8, a7, x3]
  · by_cases h : 20 ≤ T 8 m
    · rw [if_pos h]
    · rw [if_neg h]; exact if_neg hr
  · rw [e8]
    by_cases hkm : k = m
    · exact ⟨x, x2, fun _ => x1, if_pos hkm⟩
    · obtain ⟨p', t', o', b1, b2, b3, b4, b5, b6, b7⟩ := hT.vil hk
      exact ⟨o', b4, fun h => absurd h hkm, (if_neg hkm : upd (T 8) m (nI x) k = T 8 k).trans b7⟩
theorem odn {U : CT} {l m : Nat} (hl : l < 3) (hne : m ≠ l) (hU : ∀ k, k < 3 → ∃ o, o ≤ 20 ∧ (k = m → 1 ≤ o) ∧ U 8 k = nI o) : s_oddsDn U l 8 = upd (U 8) l (if 0 < U 8 l - 1 then U 8 l - 1 else 0) ∧ (∀ r, r ≠ 8 → s_oddsDn U l r = U r) ∧ (∀ k, k < 3 → ∃ o, o ≤ 20 ∧ (k = m → 1 ≤ o) ∧ s_oddsDn U l 8 k = nI o) := by
  obtain ⟨o, a4, -, a7⟩ := hU l hl
  obtain ⟨x, x2, x3, x4, x5⟩ := od_dn o a4
  unfold s_oddsDn
  have e8 : (if U 8 l ≤ 0 then U else us U 8 l (U 8 l - 1)) 8 = upd (U 8) l (nI x) := by
    by_cases h : U 8 l ≤ 0
    · rw [if_pos h]
      refine (upd_self ?_).symm
      rw [a7] at h ⊢
      exact (x5 h).symm
    · rw [if_neg h]
      show upd (U 8) l (U 8 l - 1) = _
      rw [a7] at h ⊢
      rw [x4 h]
  refine ⟨?_, fun r hr => ?_, fun k hk => ?_⟩
  · rw [e8, a7, x3]
  · by_cases h : U 8 l ≤ 0
    · rw [if_pos h]
    · rw [if_neg h]; exact if_neg hr
  · rw [e8]
    by_cases hkm : k = l
    · exact ⟨x, x2, fun h => absurd (h.symm.trans hkm) hne, if_pos hkm⟩
    · obtain ⟨o', b4, b5, b7⟩ := hU k hk
      exact ⟨o', b4, b5, (if_neg hkm : upd (U 8) l (nI x) k = U 8 k).trans b7⟩
theorem cyear (hT : HV n mc T) : ∃ D : CT, s_closeYear T = us (us (us D 9 0 0) 9 1 0) 9 2 0 ∧ D 8 = upd (upd (T 8) (s_fg (T 9)) (if T 8 (s_fg (T 9)) + 1 < 20 then T 8 (s_fg (T 9)) + 1 else 20)) (s_ll (T 9)) (if 0 < upd (T 8) (s_fg (T 9)) (if T 8 (s_fg (T 9)) + 1 < 20 then T 8 (s_fg (T 9)) + 1 else 20) (s_ll (T 9)) - 1 then upd (T 8) (s_fg (T 9)) (if T 8 (s_fg (T 9)) + 1 < 20 then T 8 (s_fg (T 9)) + 1 else 20) (s_ll (T 9)) - 1 else 0) ∧ (∀ r, r ≠ 8 → D r = T r) ∧ (∀ k, k < 3 → ∃ o, o ≤ 20 ∧ (k = s_fg (T 9) → 1 ≤ o) ∧ D 8 k = nI o) := by
  obtain ⟨u1, u2, u3⟩ := oup hT
  have e9 : s_oddsUp T 9 = T 9 := u2 9 (by decide)
  obtain ⟨d1, d2, d3⟩ := odn (U := s_oddsUp T) (l := s_ll (T 9)) (m := s_fg (T 9)) (s_ll_lt _) (fg_ne_ll _) u3
  refine ⟨s_oddsDn (s_oddsUp T) (s_ll (T 9)), by rw [s_closeYear, e9], by rw [d1, u1], fun r hr => (d2 r hr).trans (u2 r hr), d3⟩
theorem he_year {mo le : Nat} (hT : HV n mc T) (hmo : mo = s_fg (T 9)) (hle : le = s_ll (T 9)) : HE n mc (us (us (us (us (us T 8 mo (if T 8 mo + 1 < 20 then T 8 mo + 1 else 20)) 8 le (if 0 < us T 8 mo (if T 8 mo + 1 < 20 then T 8 mo + 1 else 20) 8 le - 1 then us T 8 mo (if T 8 mo + 1 < 20 then T 8 mo + 1 else 20) 8 le - 1 else 0)) 9 0 0) 9 1 0) 9 2 0) (s_closeYear T) := by
  obtain ⟨D, d1, d2, d3, -⟩ := cyear hT
  rw [d1]
  rw [← hmo, ← hle] at d2
  refine ⟨fun j hj => ⟨?_, ?_, ?_, ?_⟩, fun j hj => ⟨?_, ?_, ?_, ?_⟩, fun j hj => ?_, fun j _ => ⟨?_, ?_, ?_, ?_, ?_⟩, ?_, ?_, ?_, ?_, ?_, ?_⟩
  · show T 1 j = D 1 j; rw [d3 1 (by decide)]
  · show T 2 j = D 2 j; rw [d3 2 (by decide)]
  · show _ = D 8 j; rw [d2]; rfl
  · show upd (upd (upd (T 9) 0 0) 1 0) 2 0 j = upd (upd (upd (D 9) 0 0) 1 0) 2 0 j; rw [d3 9 (by decide)]
  · show T 4 j = D 4 j; rw [d3 4 (by decide)]
  · show T 5 j = D 5 j; rw [d3 5 (by decide)]
  · show T 6 j = D 6 j; rw [d3 6 (by decide)]
  · show T 7 j = D 7 j; rw [d3 7 (by decide)]
  · show T 15 j = D 15 j; rw [d3 15 (by decide)]
  · show T 10 j = D 10 j; rw [d3 10 (by decide)]
  · show T 11 j = D 11 j; rw [d3 11 (by decide)]
  · show T 12 j = D 12 j; rw [d3 12 (by decide)]
  · show T 13 j = D 13 j; rw [d3 13 (by decide)]
  · show T 14 j = D 14 j; rw [d3 14 (by decide)]
  all_goals (show T 16 _ = D 16 _; rw [d3 16 (by decide)])
theorem cy_hv (hT : HV n mc T) : HV n mc (s_closeYear T) := by
  obtain ⟨D, d1, d2, d3, d4⟩ := cyear hT
  obtain ⟨h1, h2, h3, h4, h5, h6, h7, h8, h9⟩ := hT
  have e16 : D 16 = T 16 := d3 16 (by decide)
  rw [d1]
  refine ⟨by rw [← e16] at h1; exact h1, by rw [← e16] at h2; exact h2, by rw [← e16] at h3; exact h3, by rw [← d3 10 (by decide), ← d3 13 (by decide)] at h4; exact h4, fun k hk => ?_, ?_, by rw [← d3 4 (by decide), ← d3 5 (by decide), ← d3 6 (by decide)] at h7; exact h7, by rw [← e16] at h8; exact h8, by rw [← e16] at h9; exact h9⟩
  · obtain ⟨p, t, o, a1, a2, a3, a4, a5, a6, a7⟩ := h5 k hk
    obtain ⟨o', b1, b2, b3⟩ := d4 k hk
    refine ⟨p, t, o', a1, a2, a3, b1, ?_, ?_, b3⟩
    · show D 1 k = _; rw [d3 1 (by decide)]; exact a5
    · show D 2 k = _; rw [d3 2 (by decide)]; exact a6
  · obtain ⟨o0, b0, c0, f0⟩ := d4 0 (by decide)
    obtain ⟨o1, b1, c1, f1⟩ := d4 1 (by decide)
    obtain ⟨o2, b2, c2, f2⟩ := d4 2 (by decide)
    show ¬ D 8 0 + D 8 1 + D 8 2 = 0
    rw [f0, f1, f2, nI_add, nI_add]
    have hm := s_fg_lt (T 9)
    refine nI_ne0 ?_ (by omega)
    have h9 : s_fg (T 9) = 0 ∨ s_fg (T 9) = 1 ∨ s_fg (T 9) = 2 := by omega
    rcases h9 with h | h | h
    · have := c0 h.symm; omega
    · have := c1 h.symm; omega
    · have := c2 h.symm; omega
end YEAR
theorem judge_0 (S : CT) (vg w bc vc mc : Nat) : s_judge S vg w bc vc mc 16 0 = S 16 0 := by
  unfold s_judge
  split
  · rfl
  · rw [s_judgeEnd, rem_16 _ _ _ _ (by decide)]
    show (us _ 16 6 _) 16 0 = _
    exact s_judgeMid_16 S vg w _ vc mc 0 (Or.inl rfl)
theorem vil_0 (v : Nat) (T : CT) : s_vilB v T 16 0 = T 16 0 := (judge_0 _ _ _ _ _ _).trans rfl
theorem fair_0 (f : Nat) (T : CT) : s_fairB f T 16 0 = T 16 0 := by
  unfold s_fairB
  split
  · exact s_sellAt_16 _ _ _ _ 0 (by decide) (by decide) (by decide)
  · rfl
theorem fairB_hv {f n mc : Nat} {T : CT} (hf : f < 2) (hT : HV n mc T) : HV n mc (s_fairB f T) := by
  unfold s_fairB
  split
  · rw [hT.bc, hT.vc]; exact sellAt_hv hT hf
  · exact hT
theorem day_hv {n mc dy : Nat} {S : CT} (hS : HV n mc S) (hd : S 16 0 = nI dy) (h : dy + 1 ≤ 1000) : HV (bcO (s_day S)) (mcO (s_day S)) (s_day S) ∧ s_day S 16 0 = nI (dy + 1) := by
  have h0 := hS.d1 hd h
  rw [day_unf h0]
  have e0 : us S 16 0 (S 16 0 + 1) 16 0 = nI (dy + 1) := by
    show S 16 0 + 1 = _
    rw [hd, nI_1]
  obtain ⟨X, hX⟩ : ∃ X, X = us S 16 0 (S 16 0 + 1) := ⟨_, rfl⟩
  rw [← hX] at h0 e0 ⊢
  have h2 := fairB_hv (f := 1) (by decide) (fairB_hv (f := 0) (by decide) h0)
  have h3 := vil_hv (vil_hv (vil_hv h2 (vg := 0) (by decide)) (vg := 1) (by decide)) (vg := 2) (by decide)
  have e3 : s_vilB 2 (s_vilB 1 (s_vilB 0 (s_fairB 1 (s_fairB 0 X)))) 16 0 = nI (dy + 1) := by rw [vil_0, vil_0, vil_0, fair_0, fair_0, e0]
  obtain ⟨Y, hY⟩ : ∃ Y, Y = s_vilB 2 (s_vilB 1 (s_vilB 0 (s_fairB 1 (s_fairB 0 X)))) := ⟨_, rfl⟩
  rw [← hY] at h3 e3 ⊢
  unfold s_dayY
  split
  · have h4 := cy_hv h3
    have eb : bcO (s_closeYear Y) = bcO Y := congrArg Int32.toNatClampNeg (s_closeYear_16 Y 12)
    have em : mcO (s_closeYear Y) = mcO Y := congrArg Int32.toNatClampNeg (s_closeYear_16 Y 13)
    rw [eb, em]
    exact ⟨h4, (s_closeYear_16 Y 0).trans e3⟩
  · exact ⟨h3, e3⟩
set_option maxHeartbeats 4000000 in
set_option maxRecDepth 100000 in
theorem c_X11_passes (l : Launch) (G : gT) (h r : Nat → Nat) (n mc : Nat) (S : CT) (hS1 : HV n mc (us S 16 0 (S 16 0 + 1))) : MV l yX11_passes cX11_passes 4 { frames := 2, cells := 6, slots := 120, locals := 90 } [.ref (h 0)] G (hdW G h r n mc S) (fun (u : (Nat → Nat) × (Nat → Nat)) => u.1 0 = h 0) (fun u => hdW G u.1 u.2 (bcO (s_day S)) (mcO (s_day S)) (s_day S)) := by
  refine jm_v (own := RX11) (by decide) rfl (Nat.le_of_ble_eq_true rfl) (fun x hl hC hR hN => ?_)
  subst hl
  refine J_aload_n hC dX11_passes_0 0 rfl rfl ?_
  refine J_dup hC dX11_passes_1 rfl ?_
  refine J_get (v := .int (S 16 0)) hC wu_X11 rfl dX11_passes_2 0 11 (by decide) wf_X11_70 rfl rfl ?_
  refine J_iconst (v := 1) hC dX11_passes_5 rfl ?_
  refine J_iadd (v := S 16 0 + 1) hC dX11_passes_6 rfl ?_
  refine J_put (ws' := hdW G h r n mc (us S 16 0 (S 16 0 + 1))) hC wu_X11 rfl tyX11_ok nmX11 dX11_passes_7 0 11 (by decide) wf_X11_70 rfl rfl (Nat.le_of_ble_eq_true rfl) rfl rfl rfl ?_
  refine J_iconst (v := 0) hC dX11_passes_10 rfl ?_
  refine J_istore_n hC [(1, .int 0), (0, .ref (h 0))] dX11_passes_11 rfl (by decide) rfl ?_
  have hdd : s_day S = s_dayY (s_vilB 2 (s_vilB 1 (s_vilB 0 (s_fairB 1 (s_fairB 0 (us S 16 0 (S 16 0 + 1))))))) := day_unf hS1
  have p2 : ∀ T, HV n mc T → T = s_fairB 1 (s_fairB 0 (us S 16 0 (S 16 0 + 1))) → J x G (hdW G h r n mc T) 0 0 [(1, .int 2), (0, .ref (h 0))] [] 12 := by
    intro T hT hTe
    refine J_iload_n hC dX11_passes_12 0 rfl rfl ?_
    refine J_iconst (v := 2) hC dX11_passes_13 rfl ?_
    refine J_ic_ge (tgt := 44) hC dX11_passes_14 (by decide) (fun _ => ?_) (fun c => absurd (by decide) c)
    refine J_iconst (v := 0) hC dX11_passes_44 rfl ?_
    refine J_istore_n hC [(1, .int 0), (0, .ref (h 0))] dX11_passes_45 rfl (by decide) rfl ?_
    refine J_iload_n hC dX11_passes_46 0 rfl rfl ?_
    refine J_iconst (v := 3) hC dX11_passes_47 rfl ?_
    refine J_ic_ge (tgt := 62) hC dX11_passes_48 (by decide) (fun c => absurd c (by decide)) (fun _ => ?_)
    refine J_aload_n hC dX11_passes_51 1 rfl rfl ?_
    refine J_iload_n hC dX11_passes_52 0 rfl rfl ?_
    refine J_callVv hC dX11_passes_53 wl_X11_102 yi_X11_weather (c_X11_weather _ G h r n mc 0 T (by decide) hT) rfl rfl 0 11 rfl rfl ⟨Nat.le_of_ble_eq_true rfl, Nat.le_of_ble_eq_true rfl⟩ (Nat.le_of_ble_eq_true rfl) (Nat.le_of_ble_eq_true rfl) (Nat.le_of_ble_eq_true rfl) (fun u e1 => ?_)
    obtain ⟨h1, r1⟩ := u
    dsimp only at e1 ⊢
    have hv1 := vil_hv hT (vg := 0) (by decide)
    obtain ⟨T1, eT1⟩ : ∃ z, z = s_vilB 0 T := ⟨_, rfl⟩
    rw [← eT1] at hv1 ⊢
    obtain ⟨n1, en1⟩ : ∃ z, z = bcO T1 := ⟨_, rfl⟩
    obtain ⟨m1, em1⟩ : ∃ z, z = mcO T1 := ⟨_, rfl⟩
    rw [← en1, ← em1] at hv1 ⊢
    rw [← e1]
    refine J_iinc hC [(1, .int 1), (0, .ref (h1 0))] dX11_passes_56 0 rfl (by decide +kernel) (by decide) rfl ?_
    refine J_goto (tgt := 46) hC dX11_passes_59 (by decide) ?_
    refine J_iload_n hC dX11_passes_46 0 rfl rfl ?_
    refine J_iconst (v := 3) hC dX11_passes_47 rfl ?_
    refine J_ic_ge (tgt := 62) hC dX11_passes_48 (by decide) (fun c => absurd c (by decide)) (fun _ => ?_)
    refine J_aload_n hC dX11_passes_51 1 rfl rfl ?_
    refine J_iload_n hC dX11_passes_52 0 rfl rfl ?_
    refine J_callVv hC dX11_passes_53 wl_X11_102 yi_X11_weather (c_X11_weather _ G h1 r1 n1 m1 1 T1 (by decide) hv1) rfl rfl 0 11 rfl rfl ⟨Nat.le_of_ble_eq_true rfl, Nat.le_of_ble_eq_true rfl⟩ (Nat.le_of_ble_eq_true rfl) (Nat.le_of_ble_eq_true rfl) (Nat.le_of_ble_eq_true rfl) (fun u e2 => ?_)
    obtain ⟨h2, r2⟩ := u
    dsimp only at e2 ⊢
    have hv2 := vil_hv hv1 (vg := 1) (by decide)
    obtain ⟨T2, eT2⟩ : ∃ z, z = s_vilB 1 T1 := ⟨_, rfl⟩
    rw [← eT2] at hv2 ⊢
    obtain ⟨n2, en2⟩ : ∃ z, z = bcO T2 := ⟨_, rfl⟩
    obtain ⟨m2, em2⟩ : ∃ z, z = mcO T2 := ⟨_, rfl⟩
    rw [← en2, ← em2] at hv2 ⊢
    rw [← e2]
    refine J_iinc hC [(1, .int 2), (0, .ref (h2 0))] dX11_passes_56 0 rfl (by decide +kernel) (by decide) rfl ?_
    refine J_goto (tgt := 46) hC dX11_passes_59 (by decide) ?_
    refine J_iload_n hC dX11_passes_46 0 rfl rfl ?_
    refine J_iconst (v := 3) hC dX11_passes_47 rfl ?_
    refine J_ic_ge (tgt := 62) hC dX11_passes_48 (by decide) (fun c => absurd c (by decide)) (fun _ => ?_)
    refine J_aload_n hC dX11_passes_51 1 rfl rfl ?_
    refine J_iload_n hC dX11_passes_52 0 rfl rfl ?_
    refine J_callVv hC dX11_passes_53 wl_X11_102 yi_X11_weather (c_X11_weather _ G h2 r2 n2 m2 2 T2 (by decide) hv2) rfl rfl 0 11 rfl rfl ⟨Nat.le_of_ble_eq_true rfl, Nat.le_of_ble_eq_true rfl⟩ (Nat.le_of_ble_eq_true rfl) (Nat.le_of_ble_eq_true rfl) (Nat.le_of_ble_eq_true rfl) (fun u e3 => ?_)
    obtain ⟨h3, r3⟩ := u
    dsimp only at e3 ⊢
    have hv3 := vil_hv hv2 (vg := 2) (by decide)
    obtain ⟨T3, eT3⟩ : ∃ z, z = s_vilB 2 T2 := ⟨_, rfl⟩
    rw [← eT3] at hv3 ⊢
    obtain ⟨n3, en3⟩ : ∃ z, z = bcO T3 := ⟨_, rfl⟩
    obtain ⟨m3, em3⟩ : ∃ z, z = mcO T3 := ⟨_, rfl⟩
    rw [← en3, ← em3] at hv3 ⊢
    rw [← e3]
    refine J_iinc hC [(1, .int 3), (0, .ref (h3 0))] dX11_passes_56 0 rfl (by decide +kernel) (by decide) rfl ?_
    refine J_goto (tgt := 46) hC dX11_passes_59 (by decide) ?_
    refine J_iload_n hC dX11_passes_46 0 rfl rfl ?_
    refine J_iconst (v := 3) hC dX11_passes_47 rfl ?_
    refine J_ic_ge (tgt := 62) hC dX11_passes_48 (by decide) (fun _ => ?_) (fun c => absurd (by decide) c)
    refine J_aload_n hC dX11_passes_62 1 rfl rfl ?_
    refine J_get (v := .int (T3 16 0)) hC wu_X11 rfl dX11_passes_63 0 11 (by decide) wf_X11_70 rfl rfl ?_
    refine J_bipush (v := 12) hC dX11_passes_66 rfl ?_
    refine J_irem (v := imod (T3 16 0) 12) hC dX11_passes_68 (by decide) rfl ?_
    have hd3 : s_day S = s_dayY T3 := by rw [hdd, ← hTe, ← eT1, ← eT2, ← eT3]
    have he0 : h3 0 = h 0 := e3.trans (e2.trans e1)
    refine J_if_eq (tgt := 73) hC dX11_passes_69 (by decide) (fun c1 => ?_) (fun c1 => ?_)
    · have hd4 : s_day S = s_closeYear T3 := by rw [hd3, s_dayY, if_pos c1]
      have hb4 : bcO (s_day S) = n3 ∧ mcO (s_day S) = m3 := by rw [hd4]; exact ⟨(congrArg Int32.toNatClampNeg (s_closeYear_16 T3 12)).trans en3.symm, (congrArg Int32.toNatClampNeg (s_closeYear_16 T3 13)).trans em3.symm⟩
      have p127 : ∀ mo, mo = s_fg (T3 9) → J x G (hdW G h3 r3 n3 m3 T3) (0 + 2 + 2 + 2) (0 + 40 + 40 + 40) [(1, .int 3), (0, .ref (h3 0))] [.int (nI mo)] 127 := by
        intro mo hmo
        have hmo3 : mo < 3 := by rw [hmo]; exact s_fg_lt _
        refine J_istore_n hC [(1, .int (nI mo)), (0, .ref (h3 0))] dX11_passes_127 rfl (by decide) rfl ?_
        have p182 : ∀ le, le = s_ll (T3 9) → J x G (hdW G h3 r3 n3 m3 T3) (0 + 2 + 2 + 2) (0 + 40 + 40 + 40) [(1, .int (nI mo)), (0, .ref (h3 0))] [.int (nI le)] 182 := by
          intro le hle
          have hle3 : le < 3 := by rw [hle]; exact s_ll_lt _
          refine J_istore_n hC [(2, .int (nI le)), (1, .int (nI mo)), (0, .ref (h3 0))] dX11_passes_182 rfl (by decide) rfl ?_
          refine J_aload_n hC dX11_passes_183 2 rfl rfl ?_
          refine J_get (v := .ref (h3 3)) hC wu_X11 rfl dX11_passes_184 0 2 (by decide) wf_X11_16 rfl rfl ?_
          refine J_iload_n hC dX11_passes_187 1 rfl rfl ?_
          refine J_bipush (v := 20) hC dX11_passes_188 rfl ?_
          refine J_aload_n hC dX11_passes_190 2 rfl rfl ?_
          refine J_get (v := .ref (h3 3)) hC wu_X11 rfl dX11_passes_191 0 2 (by decide) wf_X11_16 rfl rfl ?_
          refine J_iload_n hC dX11_passes_194 1 rfl rfl ?_
          refine J_iald (i := mo) (v := T3 8 mo) hC dX11_passes_195 3 rfl hmo3 (by decide) rfl ?_
          refine J_iconst (v := 1) hC dX11_passes_196 rfl ?_
          refine J_iadd (v := T3 8 mo + 1) hC dX11_passes_197 rfl ?_
          refine J_mmin (v := if T3 8 mo + 1 < 20 then T3 8 mo + 1 else 20) hC dX11_passes_198 wl_X11_79 (Nat.le_of_ble_eq_true rfl) (Nat.le_of_ble_eq_true rfl) (Nat.le_of_ble_eq_true rfl) (Nat.le_of_ble_eq_true rfl) rfl ?_
          refine J_iast (i := mo) (ws' := hdW G h3 r3 n3 m3 (us T3 8 mo (if T3 8 mo + 1 < 20 then T3 8 mo + 1 else 20))) hC dX11_passes_201 3 rfl hmo3 (by decide) rfl ?_
          refine J_aload_n hC dX11_passes_202 2 rfl rfl ?_
          refine J_get (v := .ref (h3 3)) hC wu_X11 rfl dX11_passes_203 0 2 (by decide) wf_X11_16 rfl rfl ?_
          refine J_iload_n hC dX11_passes_206 0 rfl rfl ?_
          refine J_iconst (v := 0) hC dX11_passes_207 rfl ?_
          refine J_aload_n hC dX11_passes_208 2 rfl rfl ?_
          refine J_get (v := .ref (h3 3)) hC wu_X11 rfl dX11_passes_209 0 2 (by decide) wf_X11_16 rfl rfl ?_
          refine J_iload_n hC dX11_passes_212 0 rfl rfl ?_
          refine J_iald (i := le) (v := (us T3 8 mo (if T3 8 mo + 1 < 20 then T3 8 mo + 1 else 20)) 8 le) hC dX11_passes_213 3 rfl hle3 (by decide) rfl ?_
          refine J_iconst (v := 1) hC dX11_passes_214 rfl ?_
          refine J_isub (v := (us T3 8 mo (if T3 8 mo + 1 < 20 then T3 8 mo + 1 else 20)) 8 le - 1) hC dX11_passes_215 rfl ?_
          refine J_mmax (v := if 0 < (us T3 8 mo (if T3 8 mo + 1 < 20 then T3 8 mo + 1 else 20)) 8 le - 1 then (us T3 8 mo (if T3 8 mo + 1 < 20 then T3 8 mo + 1 else 20)) 8 le - 1 else 0) hC dX11_passes_216 wl_X11_73 (Nat.le_of_ble_eq_true rfl) (Nat.le_of_ble_eq_true rfl) (Nat.le_of_ble_eq_true rfl) (Nat.le_of_ble_eq_true rfl) rfl ?_
          refine J_iast (i := le) (ws' := hdW G h3 r3 n3 m3 (us (us T3 8 mo (if T3 8 mo + 1 < 20 then T3 8 mo + 1 else 20)) 8 le (if 0 < (us T3 8 mo (if T3 8 mo + 1 < 20 then T3 8 mo + 1 else 20)) 8 le - 1 then (us T3 8 mo (if T3 8 mo + 1 < 20 then T3 8 mo + 1 else 20)) 8 le - 1 else 0))) hC dX11_passes_219 3 rfl hle3 (by decide) rfl ?_
          refine J_iconst (v := 0) hC dX11_passes_220 rfl ?_
          refine J_istore_n hC [(3, .int 0), (2, .int (nI le)), (1, .int (nI mo)), (0, .ref (h3 0))] dX11_passes_221 rfl (by decide) rfl ?_
          refine J_iload_n hC dX11_passes_222 0 rfl rfl ?_
          refine J_iconst (v := 3) hC dX11_passes_223 rfl ?_
          refine J_ic_ge (tgt := 240) hC dX11_passes_224 (by decide) (fun c => absurd c (by decide)) (fun _ => ?_)
          refine J_aload_n hC dX11_passes_227 3 rfl rfl ?_
          refine J_get (v := .ref (h3 4)) hC wu_X11 rfl dX11_passes_228 0 3 (by decide) wf_X11_19 rfl rfl ?_
          refine J_iload_n hC dX11_passes_231 0 rfl rfl ?_
          refine J_iconst (v := 0) hC dX11_passes_232 rfl ?_
          refine J_iast (i := 0) (ws' := hdW G h3 r3 n3 m3 (us (us (us T3 8 mo (if T3 8 mo + 1 < 20 then T3 8 mo + 1 else 20)) 8 le (if 0 < (us T3 8 mo (if T3 8 mo + 1 < 20 then T3 8 mo + 1 else 20)) 8 le - 1 then (us T3 8 mo (if T3 8 mo + 1 < 20 then T3 8 mo + 1 else 20)) 8 le - 1 else 0)) 9 0 0)) hC dX11_passes_233 4 rfl (by decide) (by decide) rfl ?_
          refine J_iinc hC [(3, .int 1), (2, .int (nI le)), (1, .int (nI mo)), (0, .ref (h3 0))] dX11_passes_234 0 rfl (by decide +kernel) (by decide) rfl ?_
          refine J_goto (tgt := 222) hC dX11_passes_237 (by decide) ?_
          refine J_iload_n hC dX11_passes_222 0 rfl rfl ?_
          refine J_iconst (v := 3) hC dX11_passes_223 rfl ?_
          refine J_ic_ge (tgt := 240) hC dX11_passes_224 (by decide) (fun c => absurd c (by decide)) (fun _ => ?_)
          refine J_aload_n hC dX11_passes_227 3 rfl rfl ?_
          refine J_get (v := .ref (h3 4)) hC wu_X11 rfl dX11_passes_228 0 3 (by decide) wf_X11_19 rfl rfl ?_
          refine J_iload_n hC dX11_passes_231 0 rfl rfl ?_
          refine J_iconst (v := 0) hC dX11_passes_232 rfl ?_
          refine J_iast (i := 1) (ws' := hdW G h3 r3 n3 m3 (us (us (us (us T3 8 mo (if T3 8 mo + 1 < 20 then T3 8 mo + 1 else 20)) 8 le (if 0 < (us T3 8 mo (if T3 8 mo + 1 < 20 then T3 8 mo + 1 else 20)) 8 le - 1 then (us T3 8 mo (if T3 8 mo + 1 < 20 then T3 8 mo + 1 else 20)) 8 le - 1 else 0)) 9 0 0) 9 1 0)) hC dX11_passes_233 4 rfl (by decide) (by decide) rfl ?_
          refine J_iinc hC [(3, .int 2), (2, .int (nI le)), (1, .int (nI mo)), (0, .ref (h3 0))] dX11_passes_234 0 rfl (by decide +kernel) (by decide) rfl ?_
          refine J_goto (tgt := 222) hC dX11_passes_237 (by decide) ?_
          refine J_iload_n hC dX11_passes_222 0 rfl rfl ?_
          refine J_iconst (v := 3) hC dX11_passes_223 rfl ?_
          refine J_ic_ge (tgt := 240) hC dX11_passes_224 (by decide) (fun c => absurd c (by decide)) (fun _ => ?_)
          refine J_aload_n hC dX11_passes_227 3 rfl rfl ?_
          refine J_get (v := .ref (h3 4)) hC wu_X11 rfl dX11_passes_228 0 3 (by decide) wf_X11_19 rfl rfl ?_
          refine J_iload_n hC dX11_passes_231 0 rfl rfl ?_
          refine J_iconst (v := 0) hC dX11_passes_232 rfl ?_
          refine J_iast (i := 2) (ws' := hdW G h3 r3 n3 m3 (us (us (us (us (us T3 8 mo (if T3 8 mo + 1 < 20 then T3 8 mo + 1 else 20)) 8 le (if 0 < (us T3 8 mo (if T3 8 mo + 1 < 20 then T3 8 mo + 1 else 20)) 8 le - 1 then (us T3 8 mo (if T3 8 mo + 1 < 20 then T3 8 mo + 1 else 20)) 8 le - 1 else 0)) 9 0 0) 9 1 0) 9 2 0)) hC dX11_passes_233 4 rfl (by decide) (by decide) rfl ?_
          refine J_iinc hC [(3, .int 3), (2, .int (nI le)), (1, .int (nI mo)), (0, .ref (h3 0))] dX11_passes_234 0 rfl (by decide +kernel) (by decide) rfl ?_
          refine J_goto (tgt := 222) hC dX11_passes_237 (by decide) ?_
          refine J_iload_n hC dX11_passes_222 0 rfl rfl ?_
          refine J_iconst (v := 3) hC dX11_passes_223 rfl ?_
          refine J_ic_ge (tgt := 240) hC dX11_passes_224 (by decide) (fun _ => ?_) (fun c => absurd (by decide) c)
          refine J_hd (S' := s_day S) (by rw [hd4]; exact he_year hv3 hmo hle) ?_
          exact J_vret hC hR dX11_passes_240 (h3, r3) he0 (by rw [hb4.1, hb4.2]) (by decide) (by decide)
        refine J_aload_n hC dX11_passes_128 1 rfl rfl ?_
        refine J_get (v := .ref (h3 4)) hC wu_X11 rfl dX11_passes_129 0 3 (by decide) wf_X11_19 rfl rfl ?_
        refine J_iconst (v := 2) hC dX11_passes_132 rfl ?_
        refine J_iald (i := 2) (v := T3 9 2) hC dX11_passes_133 4 rfl (by decide) (by decide) rfl ?_
        refine J_aload_n hC dX11_passes_134 1 rfl rfl ?_
        refine J_get (v := .ref (h3 4)) hC wu_X11 rfl dX11_passes_135 0 3 (by decide) wf_X11_19 rfl rfl ?_
        refine J_iconst (v := 1) hC dX11_passes_138 rfl ?_
        refine J_iald (i := 1) (v := T3 9 1) hC dX11_passes_139 4 rfl (by decide) (by decide) rfl ?_
        refine J_ic_gt (tgt := 162) hC dX11_passes_140 (by decide) (fun c2 => ?_) (fun c2 => ?_)
        · refine J_aload_n hC dX11_passes_162 1 rfl rfl ?_
          refine J_get (v := .ref (h3 4)) hC wu_X11 rfl dX11_passes_163 0 3 (by decide) wf_X11_19 rfl rfl ?_
          refine J_iconst (v := 1) hC dX11_passes_166 rfl ?_
          refine J_iald (i := 1) (v := T3 9 1) hC dX11_passes_167 4 rfl (by decide) (by decide) rfl ?_
          refine J_aload_n hC dX11_passes_168 1 rfl rfl ?_
          refine J_get (v := .ref (h3 4)) hC wu_X11 rfl dX11_passes_169 0 3 (by decide) wf_X11_19 rfl rfl ?_
          refine J_iconst (v := 0) hC dX11_passes_172 rfl ?_
          refine J_iald (i := 0) (v := T3 9 0) hC dX11_passes_173 4 rfl (by decide) (by decide) rfl ?_
          refine J_ic_gt (tgt := 181) hC dX11_passes_174 (by decide) (fun c4 => ?_) (fun c4 => ?_)
          · refine J_iconst (v := 0) hC dX11_passes_181 rfl ?_
            exact p182 0 (by rw [ll_case, if_neg (fun h9 => Int32.not_le.mpr c2 h9.1), if_neg (Int32.not_le.mpr c4)])
          · refine J_iconst (v := 1) hC dX11_passes_177 rfl ?_
            refine J_goto (tgt := 182) hC dX11_passes_178 (by decide) ?_
            exact p182 1 (by rw [ll_case, if_neg (fun h9 => Int32.not_le.mpr c2 h9.1), if_pos (Int32.not_lt.mp c4)])
        · refine J_aload_n hC dX11_passes_143 1 rfl rfl ?_
          refine J_get (v := .ref (h3 4)) hC wu_X11 rfl dX11_passes_144 0 3 (by decide) wf_X11_19 rfl rfl ?_
          refine J_iconst (v := 2) hC dX11_passes_147 rfl ?_
          refine J_iald (i := 2) (v := T3 9 2) hC dX11_passes_148 4 rfl (by decide) (by decide) rfl ?_
          refine J_aload_n hC dX11_passes_149 1 rfl rfl ?_
          refine J_get (v := .ref (h3 4)) hC wu_X11 rfl dX11_passes_150 0 3 (by decide) wf_X11_19 rfl rfl ?_
          refine J_iconst (v := 0) hC dX11_passes_153 rfl ?_
          refine J_iald (i := 0) (v := T3 9 0) hC dX11_passes_154 4 rfl (by decide) (by decide) rfl ?_
          refine J_ic_gt (tgt := 162) hC dX11_passes_155 (by decide) (fun c3 => ?_) (fun c3 => ?_)
          · refine J_aload_n hC dX11_passes_162 1 rfl rfl ?_
            refine J_get (v := .ref (h3 4)) hC wu_X11 rfl dX11_passes_163 0 3 (by decide) wf_X11_19 rfl rfl ?_
            refine J_iconst (v := 1) hC dX11_passes_166 rfl ?_
            refine J_iald (i := 1) (v := T3 9 1) hC dX11_passes_167 4 rfl (by decide) (by decide) rfl ?_
            refine J_aload_n hC dX11_passes_168 1 rfl rfl ?_
            refine J_get (v := .ref (h3 4)) hC wu_X11 rfl dX11_passes_169 0 3 (by decide) wf_X11_19 rfl rfl ?_
            refine J_iconst (v := 0) hC dX11_passes_172 rfl ?_
            refine J_iald (i := 0) (v := T3 9 0) hC dX11_passes_173 4 rfl (by decide) (by decide) rfl ?_
            refine J_ic_gt (tgt := 181) hC dX11_passes_174 (by decide) (fun c4 => ?_) (fun c4 => ?_)
            · refine J_iconst (v := 0) hC dX11_passes_181 rfl ?_
              exact p182 0 (by rw [ll_case, if_neg (fun h9 => Int32.not_le.mpr c3 h9.2), if_neg (Int32.not_le.mpr c4)])
            · refine J_iconst (v := 1) hC dX11_passes_177 rfl ?_
              refine J_goto (tgt := 182) hC dX11_passes_178 (by decide) ?_
              exact p182 1 (by rw [ll_case, if_neg (fun h9 => Int32.not_le.mpr c3 h9.2), if_pos (Int32.not_lt.mp c4)])
          · refine J_iconst (v := 2) hC dX11_passes_158 rfl ?_
            refine J_goto (tgt := 182) hC dX11_passes_159 (by decide) ?_
            exact p182 2 (by rw [ll_case, if_pos ⟨Int32.not_lt.mp c2, Int32.not_lt.mp c3⟩])
      refine J_aload_n hC dX11_passes_73 1 rfl rfl ?_
      refine J_get (v := .ref (h3 4)) hC wu_X11 rfl dX11_passes_74 0 3 (by decide) wf_X11_19 rfl rfl ?_
      refine J_iconst (v := 0) hC dX11_passes_77 rfl ?_
      refine J_iald (i := 0) (v := T3 9 0) hC dX11_passes_78 4 rfl (by decide) (by decide) rfl ?_
      refine J_aload_n hC dX11_passes_79 1 rfl rfl ?_
      refine J_get (v := .ref (h3 4)) hC wu_X11 rfl dX11_passes_80 0 3 (by decide) wf_X11_19 rfl rfl ?_
      refine J_iconst (v := 1) hC dX11_passes_83 rfl ?_
      refine J_iald (i := 1) (v := T3 9 1) hC dX11_passes_84 4 rfl (by decide) (by decide) rfl ?_
      refine J_ic_lt (tgt := 107) hC dX11_passes_85 (by decide) (fun c2 => ?_) (fun c2 => ?_)
      · refine J_aload_n hC dX11_passes_107 1 rfl rfl ?_
        refine J_get (v := .ref (h3 4)) hC wu_X11 rfl dX11_passes_108 0 3 (by decide) wf_X11_19 rfl rfl ?_
        refine J_iconst (v := 1) hC dX11_passes_111 rfl ?_
        refine J_iald (i := 1) (v := T3 9 1) hC dX11_passes_112 4 rfl (by decide) (by decide) rfl ?_
        refine J_aload_n hC dX11_passes_113 1 rfl rfl ?_
        refine J_get (v := .ref (h3 4)) hC wu_X11 rfl dX11_passes_114 0 3 (by decide) wf_X11_19 rfl rfl ?_
        refine J_iconst (v := 2) hC dX11_passes_117 rfl ?_
        refine J_iald (i := 2) (v := T3 9 2) hC dX11_passes_118 4 rfl (by decide) (by decide) rfl ?_
        refine J_ic_lt (tgt := 126) hC dX11_passes_119 (by decide) (fun c4 => ?_) (fun c4 => ?_)
        · refine J_iconst (v := 2) hC dX11_passes_126 rfl ?_
          exact p127 2 (by rw [fg_case, if_neg (fun h9 => Int32.not_le.mpr c2 h9.1), if_neg (Int32.not_le.mpr c4)])
        · refine J_iconst (v := 1) hC dX11_passes_122 rfl ?_
          refine J_goto (tgt := 127) hC dX11_passes_123 (by decide) ?_
          exact p127 1 (by rw [fg_case, if_neg (fun h9 => Int32.not_le.mpr c2 h9.1), if_pos (Int32.not_lt.mp c4)])
      · refine J_aload_n hC dX11_passes_88 1 rfl rfl ?_
        refine J_get (v := .ref (h3 4)) hC wu_X11 rfl dX11_passes_89 0 3 (by decide) wf_X11_19 rfl rfl ?_
        refine J_iconst (v := 0) hC dX11_passes_92 rfl ?_
        refine J_iald (i := 0) (v := T3 9 0) hC dX11_passes_93 4 rfl (by decide) (by decide) rfl ?_
        refine J_aload_n hC dX11_passes_94 1 rfl rfl ?_
        refine J_get (v := .ref (h3 4)) hC wu_X11 rfl dX11_passes_95 0 3 (by decide) wf_X11_19 rfl rfl ?_
        refine J_iconst (v := 2) hC dX11_passes_98 rfl ?_
        refine J_iald (i := 2) (v := T3 9 2) hC dX11_passes_99 4 rfl (by decide) (by decide) rfl ?_
        refine J_ic_lt (tgt := 107) hC dX11_passes_100 (by decide) (fun c3 => ?_) (fun c3 => ?_)
        · refine J_aload_n hC dX11_passes_107 1 rfl rfl ?_
          refine J_get (v := .ref (h3 4)) hC wu_X11 rfl dX11_passes_108 0 3 (by decide) wf_X11_19 rfl rfl ?_
          refine J_iconst (v := 1) hC dX11_passes_111 rfl ?_
          refine J_iald (i := 1) (v := T3 9 1) hC dX11_passes_112 4 rfl (by decide) (by decide) rfl ?_
          refine J_aload_n hC dX11_passes_113 1 rfl rfl ?_
          refine J_get (v := .ref (h3 4)) hC wu_X11 rfl dX11_passes_114 0 3 (by decide) wf_X11_19 rfl rfl ?_
          refine J_iconst (v := 2) hC dX11_passes_117 rfl ?_
          refine J_iald (i := 2) (v := T3 9 2) hC dX11_passes_118 4 rfl (by decide) (by decide) rfl ?_
          refine J_ic_lt (tgt := 126) hC dX11_passes_119 (by decide) (fun c4 => ?_) (fun c4 => ?_)
          · refine J_iconst (v := 2) hC dX11_passes_126 rfl ?_
            exact p127 2 (by rw [fg_case, if_neg (fun h9 => Int32.not_le.mpr c3 h9.2), if_neg (Int32.not_le.mpr c4)])
          · refine J_iconst (v := 1) hC dX11_passes_122 rfl ?_
            refine J_goto (tgt := 127) hC dX11_passes_123 (by decide) ?_
            exact p127 1 (by rw [fg_case, if_neg (fun h9 => Int32.not_le.mpr c3 h9.2), if_pos (Int32.not_lt.mp c4)])
        · refine J_iconst (v := 0) hC dX11_passes_103 rfl ?_
          refine J_goto (tgt := 127) hC dX11_passes_104 (by decide) ?_
          exact p127 0 (by rw [fg_case, if_pos ⟨Int32.not_lt.mp c2, Int32.not_lt.mp c3⟩])
    · have hd4 : s_day S = T3 := by rw [hd3, s_dayY, if_neg c1]
      exact J_vret hC hR dX11_passes_72 (h3, r3) he0 (by rw [hd4, ← en3, ← em3]) (by decide) (by decide)
  have p1 : ∀ T, HV n mc T → T = s_fairB 0 (us S 16 0 (S 16 0 + 1)) → J x G (hdW G h r n mc T) 0 0 [(1, .int 1), (0, .ref (h 0))] [] 12 := by
    intro T hT hTe
    refine J_iload_n hC dX11_passes_12 0 rfl rfl ?_
    refine J_iconst (v := 2) hC dX11_passes_13 rfl ?_
    refine J_ic_ge (tgt := 44) hC dX11_passes_14 (by decide) (fun c => absurd c (by decide)) (fun _ => ?_)
    refine J_aload_n hC dX11_passes_17 1 rfl rfl ?_
    refine J_get (v := .int (T 16 0)) hC wu_X11 rfl dX11_passes_18 0 11 (by decide) wf_X11_70 rfl rfl ?_
    refine J_iload_n hC dX11_passes_21 0 rfl rfl ?_
    refine J_iadd (v := T 16 0 + 1) hC dX11_passes_22 rfl ?_
    refine J_aload_n hC dX11_passes_23 1 rfl rfl ?_
    refine J_get (v := .ref (h 6)) hC wu_X11 rfl dX11_passes_24 0 5 (by decide) wf_X11_25 rfl rfl ?_
    refine J_iload_n hC dX11_passes_27 0 rfl rfl ?_
    refine J_iald (i := 1) (v := T 5 1) hC dX11_passes_28 6 rfl (by decide) (by decide) rfl ?_
    refine J_irem (v := imod (T 16 0 + 1) (T 5 1)) hC dX11_passes_29 (hT.per (f := 1) (by decide)).1 rfl ?_
    refine J_if_ne (tgt := 38) hC dX11_passes_30 (by decide) (fun c1 => ?_) (fun c1 => ?_)
    · refine J_iinc hC [(1, .int 2), (0, .ref (h 0))] dX11_passes_38 0 rfl (by decide +kernel) (by decide) rfl ?_
      refine J_goto (tgt := 12) hC dX11_passes_41 (by decide) ?_
      exact p2 _ hT (by rw [← hTe, s_fairB, if_neg (fun h9 => c1 h9.2)])
    · refine J_aload_n hC dX11_passes_33 1 rfl rfl ?_
      refine J_iload_n hC dX11_passes_34 0 rfl rfl ?_
      refine J_callVv hC dX11_passes_35 wl_X11_99 yi_X11_fair (c_X11_fair _ G h r n mc T 1 (by decide) hT) rfl rfl 0 11 rfl rfl ⟨Nat.le_of_ble_eq_true rfl, Nat.le_of_ble_eq_true rfl⟩ (Nat.le_of_ble_eq_true rfl) (Nat.le_of_ble_eq_true rfl) (Nat.le_of_ble_eq_true rfl) (fun u9 h9 => ?_)
      refine J_iinc hC [(1, .int 2), (0, .ref (h 0))] dX11_passes_38 0 rfl (by decide +kernel) (by decide) rfl ?_
      refine J_goto (tgt := 12) hC dX11_passes_41 (by decide) ?_
      exact p2 _ (sellAt_hv hT (by decide)) (by rw [← hTe, s_fairB, if_pos ⟨(hT.per (f := 1) (by decide)).2, c1⟩, hT.bc, hT.vc])
  have hT := hS1
  refine J_iload_n hC dX11_passes_12 0 rfl rfl ?_
  refine J_iconst (v := 2) hC dX11_passes_13 rfl ?_
  refine J_ic_ge (tgt := 44) hC dX11_passes_14 (by decide) (fun c => absurd c (by decide)) (fun _ => ?_)
  refine J_aload_n hC dX11_passes_17 1 rfl rfl ?_
  refine J_get (v := .int ((us S 16 0 (S 16 0 + 1)) 16 0)) hC wu_X11 rfl dX11_passes_18 0 11 (by decide) wf_X11_70 rfl rfl ?_
  refine J_iload_n hC dX11_passes_21 0 rfl rfl ?_
  refine J_iadd (v := (us S 16 0 (S 16 0 + 1)) 16 0 + 0) hC dX11_passes_22 rfl ?_
  refine J_aload_n hC dX11_passes_23 1 rfl rfl ?_
  refine J_get (v := .ref (h 6)) hC wu_X11 rfl dX11_passes_24 0 5 (by decide) wf_X11_25 rfl rfl ?_
  refine J_iload_n hC dX11_passes_27 0 rfl rfl ?_
  refine J_iald (i := 0) (v := (us S 16 0 (S 16 0 + 1)) 5 0) hC dX11_passes_28 6 rfl (by decide) (by decide) rfl ?_
  refine J_irem (v := imod ((us S 16 0 (S 16 0 + 1)) 16 0 + 0) ((us S 16 0 (S 16 0 + 1)) 5 0)) hC dX11_passes_29 (hT.per (f := 0) (by decide)).1 rfl ?_
  refine J_if_ne (tgt := 38) hC dX11_passes_30 (by decide) (fun c1 => ?_) (fun c1 => ?_)
  · refine J_iinc hC [(1, .int 1), (0, .ref (h 0))] dX11_passes_38 0 rfl (by decide +kernel) (by decide) rfl ?_
    refine J_goto (tgt := 12) hC dX11_passes_41 (by decide) ?_
    exact p1 _ hT (by rw [s_fairB, if_neg (fun h9 => c1 h9.2)])
  · refine J_aload_n hC dX11_passes_33 1 rfl rfl ?_
    refine J_iload_n hC dX11_passes_34 0 rfl rfl ?_
    refine J_callVv hC dX11_passes_35 wl_X11_99 yi_X11_fair (c_X11_fair _ G h r n mc (us S 16 0 (S 16 0 + 1)) 0 (by decide) hT) rfl rfl 0 11 rfl rfl ⟨Nat.le_of_ble_eq_true rfl, Nat.le_of_ble_eq_true rfl⟩ (Nat.le_of_ble_eq_true rfl) (Nat.le_of_ble_eq_true rfl) (Nat.le_of_ble_eq_true rfl) (fun u9 h9 => ?_)
    refine J_iinc hC [(1, .int 1), (0, .ref (h 0))] dX11_passes_38 0 rfl (by decide +kernel) (by decide) rfl ?_
    refine J_goto (tgt := 12) hC dX11_passes_41 (by decide) ?_
    exact p1 _ (sellAt_hv hT (by decide)) (by rw [s_fairB, if_pos ⟨(hT.per (f := 0) (by decide)).2, c1⟩, hT.bc, hT.vc])


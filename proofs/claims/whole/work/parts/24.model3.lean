theorem us_self {M : CT} {r i : Nat} {a : Int32} (h : M r i = a) : us M r i a = M := by
  subst h
  funext r' j
  simp only [us, upd]
  by_cases h : r' = r <;> by_cases q : j = i <;> simp [h, q, upd]
theorem ur_us {M : CT} {r r2 i : Nat} {a : Int32} {f : RT} (h : r ≠ r2) : ur (us M r i a) r2 f = us (ur M r2 f) r i a := by
  funext q j
  simp only [us, ur]
  by_cases h1 : q = r2
  · subst h1; simp [Ne.symm h]
  · by_cases h2 : q = r
    · subst h2; simp [h]
    · simp [h1, h2]
theorem ur_ur (M : CT) (r : Nat) (f g : RT) : ur (ur M r f) r g = ur M r g := by
  funext q j
  simp only [ur]
  by_cases h : q = r <;> simp [h]
section ZA
variable {x : JX} {G : gT} {ws : va_W} {k n : Nat} {lv : List (Nat × Value)} {st : List Value} {pc : Nat} {R : Room} {cc : ByteArray} {w0 : Cond} {own : String} {nL : Nat}
theorem J_zast (hC : JC x G R cc w0 own nL) {a m i : Nat} {f : Nat → Int32} {v : Int32} {ws' : va_W} (hd : decode cc pc = .ok (.bastore, 1)) (q : Nat) (hq : ws[q]? = some (a, .inl (gc G 2, m, .inl f))) (hi : i < m) (hm : m < 2 ^ 31) (hw : ws.set q (a, .inl (gc G 2, m, .inl (upd f i (vp_nar .boolean v)))) = ws') (kk : J x G ws' k n lv st (pc + 1)) : J x G ws k n lv (.int v :: .int (nI i) :: .ref a :: st) pc := by
  subst hw
  intro H locs ls hP hD hS hL
  refine va_zast hC.1 hC.2.1 hC.2.2.2.2.2.1 hP hD hS q 2 hq rfl (vp_in_nI hi hm) hd (fun H1 locs1 hP1 hD1 hS1 => ?_)
  rw [nI_clamp (by omega)] at hP1 hD1
  exact kk H1 locs1 ls hP1 hD1 hS1 hL
end ZA
theorem m_why0 {g : RT} {v d : Int32} {bc : Nat} (h : m_why g v d bc = 0) : ¬ bc = 30 := by
  intro e
  unfold m_why at h
  rw [if_pos e] at h
  split at h
  · exact absurd h (by decide)
  · split at h
    · split at h <;> exact absurd h (by decide)
    · exact absurd h (by decide)
theorem rng_eq {v : Int32} {a b : Nat} (hb : b < 2 ^ 30) (ha : a < 2 ^ 30) (h : ¬ v < nI a ∧ ¬ nI b < v) : v = nI (cl v) ∧ a ≤ cl v ∧ cl v ≤ b := by
  have h0 : inr v (b + 1) := (inr_le hb).mp ⟨fun q => h.1 (by rw [fa_lt] at q ⊢; rw [nI_toInt (by omega)]; rw [show ((0 : Int32)).toInt = 0 from rfl] at q; omega), h.2⟩
  obtain ⟨e, h1⟩ := inr_eq h0 (by omega)
  refine ⟨e, ?_, by omega⟩
  have h2 := h.1
  rw [e, fa_lt, nI_toInt (by omega), nI_toInt (by omega)] at h2
  omega
/-! the count of regrets grows by what leaves the book -/
theorem m_endYear_lo (g : RT) (j : Nat) (h : 4 ≤ j) (h2 : j < 17) : m_endYear g j = g j := by
  have h1 := m_fg_lt g
  have h3 := m_ll_lt g
  rw [m_endYear, pk_un (by omega), pk_un (by omega), pk_un (by omega)]
  unfold m_oddsDn m_oddsUp
  split <;> split <;> first | rfl | (rw [pk_un (by omega), pk_un (by omega)]) | (rw [pk_un (by omega)])
theorem m_holdFair_11 (g : RT) (f n : Nat) : m_holdFair g f n 11 = g 11 :=
  fo_inv (fun p : RT × Int32 => p.1 11 = g 11) (fun i p h => by
    unfold m_holdB
    split
    · split
      · exact h
      · exact (m_sell_lo _ _ _ _ _ (by omega) (by omega) (by omega)).trans h
    · exact h) n 0 (g, g (45 + 5 * f)) rfl
theorem m_dayF_11 (g : RT) : m_dayF g 11 = g 11 :=
  fo_inv (fun T : RT => T 11 = g 11) (fun f T h => by
    unfold m_fairB
    split
    · exact (m_holdFair_11 _ _ _).trans h
    · exact h) _ 0 g rfl
theorem mI.weigh11 {g : RT} {bc vc fc mc : Nat} (H : mI g bc vc fc mc) (v w : Nat) (hv : v < 6) : ∃ b m k, b + k ≤ bc ∧ mI (m_weigh g v w bc mc) b vc fc m ∧ m_weigh g v w bc mc 11 = g 11 + nI k := by
  unfold m_weigh
  split
  · exact ⟨bc, mc, 0, Nat.le_refl _, H, (Int32.add_zero _).symm⟩
  · rcases m_find_cases g (nI v) (g 5) bc with hp | ⟨k, hk, hp, -, -⟩
    · contradiction
    · have hb := H.1.2
      rw [hp, nI_clamp (by omega)]
      unfold m_weighMid
      split
      · refine ⟨bc - 1, mc, 0, by omega, ((H.upd 10 _ (by omega)).addTrust v 5 hv).drop k hk, ?_⟩
        rw [m_drop_lo _ _ _ _ (by omega) (by omega) (by omega), m_addTrust, pk_un (by omega), pk_un (by omega)]
        exact (Int32.add_zero _).symm
      · refine ⟨bc - 1, _, 1, by omega, (((H.regret (nI v)).payBack _).addTrust v _ hv).drop k hk, ?_⟩
        rw [m_drop_lo _ _ _ _ (by omega) (by omega) (by omega), m_addTrust, pk_un (by omega), m_payBack, pk_un (by omega), pk_un (by omega), m_regret, pk_us, m_regret0_lo _ _ _ (by omega) (by omega)]
        rfl
theorem nI_addI (x : Int32) (a b : Nat) : x + nI a + nI b = x + nI (a + b) := by rw [Int32.add_assoc, nI_add]
theorem mI.dayV11 {vc fc : Nat} : ∀ (n v : Nat) (g : RT) (bc mc : Nat), v + n ≤ 6 → mI g bc vc fc mc → ∃ b m k, b + k ≤ bc ∧ mI (fo m_vilB v n g) b vc fc m ∧ fo m_vilB v n g 11 = g 11 + nI k
  | 0, _, _, bc, mc, _, H => ⟨bc, mc, 0, Nat.le_refl _, H, (Int32.add_zero _).symm⟩
  | n + 1, v, g, bc, mc, hv, H => by
    have e1 : m_bc g = bc := m_bc_eq H.1.1 H.1.2
    have e2 : m_mc g = mc := m_mc_eq H.2.2.2.1.1 H.2.2.2.1.2
    have hw := m_wb_lt g (s_seed (g 0))
    obtain ⟨b, m, k, hb, h, h11⟩ := H.drawn.weigh11 v (m_wb g (s_seed (g 0))) (by omega)
    have ev : m_vilB v g = m_weigh (m_drawn g) v (m_wb g (s_seed (g 0))) bc mc := by rw [m_vilB, e1, e2]
    rw [← ev] at h h11
    obtain ⟨b2, m2, k2, hb2, h2, h22⟩ := mI.dayV11 n (v + 1) _ b m (by omega) h
    refine ⟨b2, m2, k + k2, by omega, h2, ?_⟩
    show fo m_vilB (v + 1) n (m_vilB v g) 11 = _
    rw [h22, h11, show m_drawn g 11 = g 11 by rw [m_drawn, pk_un (by omega), pk_un (by omega)], nI_addI]
theorem mI.day11 {g : RT} {bc vc fc mc : Nat} (H : mI g bc vc fc mc) : ∃ b m k, b + k ≤ bc ∧ mI (m_day g) b vc fc m ∧ m_day g 11 = g 11 + nI k := by
  have HF := (H.upd 5 (g 5 + 1) (by omega)).dayF
  obtain ⟨b, m, k, hb, h, h11⟩ := mI.dayV11 vc 0 _ bc mc (by have := H.2.1.2; omega) HF
  rw [m_dayF_11, pk_un (by omega)] at h11
  refine ⟨b, m, k, hb, ?_⟩
  rw [m_day, m_dayV, m_vc_eq HF.2.1.1 HF.2.1.2, m_dayY]
  split
  · exact ⟨h.endYear, (m_endYear_lo _ _ (by omega) (by omega)).trans h11⟩
  · exact ⟨h, h11⟩
theorem mI.days11 {vc fc : Nat} : ∀ (n i : Nat) (g : RT) (bc mc : Nat), mI g bc vc fc mc → ∃ b m k, b + k ≤ bc ∧ mI (fo m_dayB i n g) b vc fc m ∧ fo m_dayB i n g 11 = g 11 + nI k
  | 0, _, _, bc, mc, H => ⟨bc, mc, 0, Nat.le_refl _, H, (Int32.add_zero _).symm⟩
  | n + 1, i, g, bc, mc, H => by
    obtain ⟨b, m, k, hb, h, h11⟩ := H.day11
    obtain ⟨b2, m2, k2, hb2, h2, h22⟩ := mI.days11 n (i + 1) (m_day g) b m h
    refine ⟨b2, m2, k + k2, by omega, h2, ?_⟩
    show fo m_dayB (i + 1) n (m_day g) 11 = _
    rw [h22, h11, nI_addI]
theorem m_days_ge {g : RT} {bc vc fc mc : Nat} (H : mI g bc vc fc mc) (n : Nat) : 0 ≤ m_days n g 11 - g 11 := by
  obtain ⟨b, m, k, hb, -, h⟩ := mI.days11 n 0 g bc mc H
  have hbc := H.1.2
  rw [m_days, h, Int32.add_comm, Int32.add_sub_cancel, fa_le, nI_toInt (by omega)]
  exact Int.natCast_nonneg k

set_option maxRecDepth 100000 in
set_option maxHeartbeats 4000000 in
theorem c_X11_remember (l : Launch) (G : gT) (m : Nat → Nat) (M : CT) (un : Nat) (u0 : Nat) (hun : M 8 0 = nI un) (bun : un ≤ 8) (hu0 : M 8 1 = nI u0) (bu0 : u0 ≤ 7) : MV l yX11_remember cX11_remember 1 { frames := 1, cells := 0, slots := 0, locals := 24 } [.ref (m 0)] G (mdW G m M) (fun (_ : Unit) => True) (fun _ => mdW G m (us (us (ur M 3 (va_cpy (M 0) (M 3) 0 (242 * ((u0 + un) % 8)) 242)) 8 1 (nI (if un = 8 then (u0 + 1) % 8 else u0))) 8 0 (nI (min (un + 1) 8)))) := by
  refine jm_v (own := RX11) (by decide) rfl (Nat.le_of_ble_eq_true rfl) (fun x hl hC hR hN => ?_)
  subst hl
  refine J_aload_n hC dX11_remember_0 0 rfl rfl ?_
  refine J_get (v := .int (M 8 0)) hC wu_X11 rfl dX11_remember_1 0 6 (by decide) wf_X11_278 rfl rfl ?_
  refine J_topi hun ?_
  refine J_bipush (v := 8) hC dX11_remember_4 (by decide +kernel) ?_
  refine J_ic_neN (a := un) (b := 8) (tgt := 32) hC dX11_remember_6 (by decide) (by omega) (by omega) (fun (c_6 : ¬ un = 8) => ?_) (fun (c_6 : un = 8) => ?_)
  · refine J_aload_n hC dX11_remember_32 0 rfl rfl ?_
    refine J_get (v := .ref (m 1)) hC wu_X11 rfl dX11_remember_33 0 0 (by decide) wf_X11_7 rfl rfl ?_
    refine J_iconst (v := 0) hC dX11_remember_36 rfl ?_
    refine J_aload_n hC dX11_remember_37 0 rfl rfl ?_
    refine J_get (v := .ref (m 4)) hC wu_X11 rfl dX11_remember_38 0 3 (by decide) wf_X11_19 rfl rfl ?_
    refine J_sipush (v := 242) hC dX11_remember_41 (by decide +kernel) ?_
    refine J_aload_n hC dX11_remember_44 0 rfl rfl ?_
    refine J_get (v := .int (M 8 1)) hC wu_X11 rfl dX11_remember_45 0 7 (by decide) wf_X11_281 rfl rfl ?_
    refine J_topi hu0 ?_
    refine J_aload_n hC dX11_remember_48 0 rfl rfl ?_
    refine J_get (v := .int (M 8 0)) hC wu_X11 rfl dX11_remember_49 0 6 (by decide) wf_X11_278 rfl rfl ?_
    refine J_topi hun ?_
    refine J_iadd (v := nI (u0 + un)) hC dX11_remember_52 (nI_add u0 un) ?_
    refine J_bipush (v := 8) hC dX11_remember_53 (by decide +kernel) ?_
    refine J_irem (v := nI ((u0 + un) % 8)) hC dX11_remember_55 (by decide) (pk_rem (a := (u0 + un)) (d := 8) (by omega) (by omega) (by omega)) ?_
    refine J_imul (v := nI (242 * ((u0 + un) % 8))) hC dX11_remember_56 (pk_mul 242 ((u0 + un) % 8)) ?_
    refine J_callSv hC dX11_remember_57 wl_X11_52 wi_X11 yi_X11_copyRow (c_X11_copyRow_03 _ G m M 0 (242 * ((u0 + un) % 8)) (by omega) (by omega)) rfl rfl ⟨Nat.le_of_ble_eq_true rfl, Nat.le_of_ble_eq_true rfl⟩ (Nat.le_of_ble_eq_true rfl) (Nat.le_of_ble_eq_true rfl) (Nat.le_of_ble_eq_true rfl) (fun _ _ => ?_)
    refine J_aload_n hC dX11_remember_60 0 rfl rfl ?_
    refine J_dup hC dX11_remember_61 rfl ?_
    refine J_get (v := .int (M 8 0)) hC wu_X11 rfl dX11_remember_62 0 6 (by decide) wf_X11_278 rfl rfl ?_
    refine J_topi hun ?_
    refine J_iconst (v := 1) hC dX11_remember_65 rfl ?_
    refine J_iadd (v := nI (1 + un)) hC dX11_remember_66 ((nI_add un 1).trans (congrArg nI (by omega))) ?_
    refine J_put (ws' := mdW G m (us (ur M 3 (va_cpy (M 0) (M 3) 0 (242 * ((u0 + un) % 8)) 242)) 8 0 (nI (1 + un)))) hC wu_X11 rfl tyX11_ok nmX11 dX11_remember_67 0 6 (by decide) wf_X11_278 rfl rfl (Nat.le_of_ble_eq_true rfl) rfl rfl rfl ?_
    refine J_vret hC hR dX11_remember_70 () ?_ ?_ (by decide) (by decide)
    · trivial
    · exact congrArg (mdW G m) (by rw [if_neg c_6, show min (un + 1) 8 = 1 + un by omega, us_self (M := ur M 3 _) (i := 1) (show ur M 3 _ 8 1 = nI u0 from hu0)])
  · refine J_aload_n hC dX11_remember_9 0 rfl rfl ?_
    refine J_aload_n hC dX11_remember_10 0 rfl rfl ?_
    refine J_get (v := .int (M 8 1)) hC wu_X11 rfl dX11_remember_11 0 7 (by decide) wf_X11_281 rfl rfl ?_
    refine J_topi hu0 ?_
    refine J_iconst (v := 1) hC dX11_remember_14 rfl ?_
    refine J_iadd (v := nI (1 + u0)) hC dX11_remember_15 ((nI_add u0 1).trans (congrArg nI (by omega))) ?_
    refine J_bipush (v := 8) hC dX11_remember_16 (by decide +kernel) ?_
    refine J_irem (v := nI ((1 + u0) % 8)) hC dX11_remember_18 (by decide) (pk_rem (a := (1 + u0)) (d := 8) (by omega) (by omega) (by omega)) ?_
    refine J_put (ws' := mdW G m (us M 8 1 (nI ((1 + u0) % 8)))) hC wu_X11 rfl tyX11_ok nmX11 dX11_remember_19 0 7 (by decide) wf_X11_281 rfl rfl (Nat.le_of_ble_eq_true rfl) rfl rfl rfl ?_
    refine J_aload_n hC dX11_remember_22 0 rfl rfl ?_
    refine J_dup hC dX11_remember_23 rfl ?_
    refine J_get (v := .int (M 8 0)) hC wu_X11 rfl dX11_remember_24 0 6 (by decide) wf_X11_278 rfl rfl ?_
    refine J_topi hun ?_
    refine J_iconst (v := 1) hC dX11_remember_27 rfl ?_
    refine J_isub (v := nI (un - 1)) hC dX11_remember_28 (pk_sub (a := un) (b := 1) (by omega)) ?_
    refine J_put (ws' := mdW G m (us (us M 8 1 (nI ((1 + u0) % 8))) 8 0 (nI (un - 1)))) hC wu_X11 rfl tyX11_ok nmX11 dX11_remember_29 0 6 (by decide) wf_X11_278 rfl rfl (Nat.le_of_ble_eq_true rfl) rfl rfl rfl ?_
    refine J_aload_n hC dX11_remember_32 0 rfl rfl ?_
    refine J_get (v := .ref (m 1)) hC wu_X11 rfl dX11_remember_33 0 0 (by decide) wf_X11_7 rfl rfl ?_
    refine J_iconst (v := 0) hC dX11_remember_36 rfl ?_
    refine J_aload_n hC dX11_remember_37 0 rfl rfl ?_
    refine J_get (v := .ref (m 4)) hC wu_X11 rfl dX11_remember_38 0 3 (by decide) wf_X11_19 rfl rfl ?_
    refine J_sipush (v := 242) hC dX11_remember_41 (by decide +kernel) ?_
    refine J_aload_n hC dX11_remember_44 0 rfl rfl ?_
    refine J_get (v := .int (nI ((1 + u0) % 8))) hC wu_X11 rfl dX11_remember_45 0 7 (by decide) wf_X11_281 rfl rfl ?_
    refine J_aload_n hC dX11_remember_48 0 rfl rfl ?_
    refine J_get (v := .int (nI (un - 1))) hC wu_X11 rfl dX11_remember_49 0 6 (by decide) wf_X11_278 rfl rfl ?_
    refine J_iadd (v := nI (((1 + u0) % 8) + (un - 1))) hC dX11_remember_52 (nI_add ((1 + u0) % 8) (un - 1)) ?_
    refine J_bipush (v := 8) hC dX11_remember_53 (by decide +kernel) ?_
    refine J_irem (v := nI ((((1 + u0) % 8) + (un - 1)) % 8)) hC dX11_remember_55 (by decide) (pk_rem (a := (((1 + u0) % 8) + (un - 1))) (d := 8) (by omega) (by omega) (by omega)) ?_
    refine J_imul (v := nI (242 * ((((1 + u0) % 8) + (un - 1)) % 8))) hC dX11_remember_56 (pk_mul 242 ((((1 + u0) % 8) + (un - 1)) % 8)) ?_
    refine J_callSv hC dX11_remember_57 wl_X11_52 wi_X11 yi_X11_copyRow (c_X11_copyRow_03 _ G m (us (us M 8 1 (nI ((1 + u0) % 8))) 8 0 (nI (un - 1))) 0 (242 * ((((1 + u0) % 8) + (un - 1)) % 8)) (by omega) (by omega)) rfl rfl ⟨Nat.le_of_ble_eq_true rfl, Nat.le_of_ble_eq_true rfl⟩ (Nat.le_of_ble_eq_true rfl) (Nat.le_of_ble_eq_true rfl) (Nat.le_of_ble_eq_true rfl) (fun _ _ => ?_)
    refine J_aload_n hC dX11_remember_60 0 rfl rfl ?_
    refine J_dup hC dX11_remember_61 rfl ?_
    refine J_get (v := .int (nI (un - 1))) hC wu_X11 rfl dX11_remember_62 0 6 (by decide) wf_X11_278 rfl rfl ?_
    refine J_iconst (v := 1) hC dX11_remember_65 rfl ?_
    refine J_iadd (v := nI ((un - 1) + 1)) hC dX11_remember_66 (nI_add (un - 1) 1) ?_
    refine J_put (ws' := mdW G m (us (ur (us (us M 8 1 (nI ((1 + u0) % 8))) 8 0 (nI (un - 1))) 3 (va_cpy (M 0) (M 3) 0 (242 * ((((1 + u0) % 8) + (un - 1)) % 8)) 242)) 8 0 (nI ((un - 1) + 1)))) hC wu_X11 rfl tyX11_ok nmX11 dX11_remember_67 0 6 (by decide) wf_X11_278 rfl rfl (Nat.le_of_ble_eq_true rfl) rfl rfl rfl ?_
    refine J_vret hC hR dX11_remember_70 () ?_ ?_ (by decide) (by decide)
    · trivial
    · subst c_6
      refine congrArg (mdW G m) ?_
      rw [if_pos rfl, show (1 + u0) % 8 = (u0 + 1) % 8 by omega, show ((u0 + 1) % 8 + (8 - 1)) % 8 = (u0 + 8) % 8 by omega, ur_us (by decide), ur_us (by decide), us_us]
      rfl

set_option maxRecDepth 100000 in
set_option maxHeartbeats 4000000 in
theorem c_X11_undo (l : Launch) (G : gT) (m : Nat → Nat) (M : CT) (un : Nat) (u0 : Nat) (hun : M 8 0 = nI un) (bun : un ≤ 8) (hu0 : M 8 1 = nI u0) (bu0 : u0 ≤ 7) : MI l yX11_undo cX11_undo 1 (some .int) { frames := 1, cells := 0, slots := 0, locals := 24 } [.ref (m 0)] G (mdW G m M) (fun r (u : CT) => ((0 < un) ∧ nI (un - 1) = r ∧ (ur (us (us M 8 2 0) 8 0 (nI (un - 1))) 0 (fun j => M 3 (242 * ((u0 + (un - 1)) % 8) + j))) = u) ∨ ((un = 0) ∧ 0 = r ∧ (us M 8 2 1) = u)) (fun u => mdW G m u) := by
  refine jm_i (own := RX11) (by decide) rfl (Nat.le_of_ble_eq_true rfl) (fun x hl hC hR hN => ?_)
  subst hl
  refine J_aload_n hC dX11_undo_0 0 rfl rfl ?_
  refine J_iconst (v := 0) hC dX11_undo_1 rfl ?_
  refine J_put (ws' := mdW G m (us M 8 2 0)) hC wu_X11 rfl tyX11_ok nmX11 dX11_undo_2 0 8 (by decide) wf_X11_66 rfl rfl (Nat.le_of_ble_eq_true rfl) rfl rfl rfl ?_
  refine J_aload_n hC dX11_undo_5 0 rfl rfl ?_
  refine J_aload_n hC dX11_undo_6 0 rfl rfl ?_
  refine J_get (v := .int (M 8 0)) hC wu_X11 rfl dX11_undo_7 0 6 (by decide) wf_X11_278 rfl rfl ?_
  refine J_topi hun ?_
  refine J_if_neN (a := un) (tgt := 17) hC dX11_undo_10 (by decide) (by omega) (fun (c_10 : 0 < un) => ?_) (fun (c_10 : un = 0) => ?_)
  · refine J_iconst (v := 0) hC dX11_undo_17 rfl ?_
    refine J_iconst (v := 1) hC dX11_undo_18 rfl ?_
    refine J_callVi hC dX11_undo_19 wl_X11_141 yi_X11_refuses (c_X11_refuses_0 _ G m (us M 8 2 0) 1 (by first | assumption | rfl)) rfl rfl 0 11 rfl rfl ⟨Nat.le_of_ble_eq_true rfl, Nat.le_of_ble_eq_true rfl⟩ (Nat.le_of_ble_eq_true rfl) (Nat.le_of_ble_eq_true rfl) (Nat.le_of_ble_eq_true rfl) (fun r u h_19 => ?_)
    obtain ⟨c_19, rfl, rfl⟩ := h_19
    refine J_if_eq (tgt := 27) hC dX11_undo_22 (by decide) (fun _ => ?_) (fun c => absurd (by decide) c)
    refine J_aload_n hC dX11_undo_27 0 rfl rfl ?_
    refine J_dup hC dX11_undo_28 rfl ?_
    refine J_get (v := .int (M 8 0)) hC wu_X11 rfl dX11_undo_29 0 6 (by decide) wf_X11_278 rfl rfl ?_
    refine J_topi hun ?_
    refine J_iconst (v := 1) hC dX11_undo_32 rfl ?_
    refine J_isub (v := nI (un - 1)) hC dX11_undo_33 (pk_sub (a := un) (b := 1) (by omega)) ?_
    refine J_put (ws' := mdW G m (us (us M 8 2 0) 8 0 (nI (un - 1)))) hC wu_X11 rfl tyX11_ok nmX11 dX11_undo_34 0 6 (by decide) wf_X11_278 rfl rfl (Nat.le_of_ble_eq_true rfl) rfl rfl rfl ?_
    refine J_aload_n hC dX11_undo_37 0 rfl rfl ?_
    refine J_get (v := .ref (m 4)) hC wu_X11 rfl dX11_undo_38 0 3 (by decide) wf_X11_19 rfl rfl ?_
    refine J_sipush (v := 242) hC dX11_undo_41 (by decide +kernel) ?_
    refine J_aload_n hC dX11_undo_44 0 rfl rfl ?_
    refine J_get (v := .int (M 8 1)) hC wu_X11 rfl dX11_undo_45 0 7 (by decide) wf_X11_281 rfl rfl ?_
    refine J_topi hu0 ?_
    refine J_aload_n hC dX11_undo_48 0 rfl rfl ?_
    refine J_get (v := .int (nI (un - 1))) hC wu_X11 rfl dX11_undo_49 0 6 (by decide) wf_X11_278 rfl rfl ?_
    refine J_iadd (v := nI (u0 + (un - 1))) hC dX11_undo_52 (nI_add u0 (un - 1)) ?_
    refine J_bipush (v := 8) hC dX11_undo_53 (by decide +kernel) ?_
    refine J_irem (v := nI ((u0 + (un - 1)) % 8)) hC dX11_undo_55 (by decide) (pk_rem (a := (u0 + (un - 1))) (d := 8) (by omega) (by omega) (by omega)) ?_
    refine J_imul (v := nI (242 * ((u0 + (un - 1)) % 8))) hC dX11_undo_56 (pk_mul 242 ((u0 + (un - 1)) % 8)) ?_
    refine J_aload_n hC dX11_undo_57 0 rfl rfl ?_
    refine J_get (v := .ref (m 1)) hC wu_X11 rfl dX11_undo_58 0 0 (by decide) wf_X11_7 rfl rfl ?_
    refine J_iconst (v := 0) hC dX11_undo_61 rfl ?_
    refine J_callSv hC dX11_undo_62 wl_X11_52 wi_X11 yi_X11_copyRow (c_X11_copyRow_30 _ G m (us (us M 8 2 0) 8 0 (nI (un - 1))) (242 * ((u0 + (un - 1)) % 8)) 0 (by omega) (by omega)) rfl rfl ⟨Nat.le_of_ble_eq_true rfl, Nat.le_of_ble_eq_true rfl⟩ (Nat.le_of_ble_eq_true rfl) (Nat.le_of_ble_eq_true rfl) (Nat.le_of_ble_eq_true rfl) (fun _ _ => ?_)
    refine J_congw (q := 1) (g := (fun j => (M 3) ((242 * ((u0 + (un - 1)) % 8)) + j))) (ws' := mdW G m (ur (us (us M 8 2 0) 8 0 (nI (un - 1))) 0 (fun j => (M 3) ((242 * ((u0 + (un - 1)) % 8)) + j)))) rfl (fun i hi => (pk_cpy_in (Nat.zero_le _) (by omega)).trans rfl) rfl ?_
    refine J_aload_n hC dX11_undo_65 0 rfl rfl ?_
    refine J_get (v := .int (nI (un - 1))) hC wu_X11 rfl dX11_undo_66 0 6 (by decide) wf_X11_278 rfl rfl ?_
    refine J_iret hC hR dX11_undo_69 rfl (ur (us (us M 8 2 0) 8 0 (nI (un - 1))) 0 (fun j => (M 3) ((242 * ((u0 + (un - 1)) % 8)) + j))) ?_ ?_ (by decide) (by decide)
    · exact Or.inl ⟨c_10, rfl, rfl⟩
    · rfl
  · refine J_iconst (v := 1) hC dX11_undo_13 rfl ?_
    refine J_goto (tgt := 18) hC dX11_undo_14 (by decide) ?_
    refine J_iconst (v := 1) hC dX11_undo_18 rfl ?_
    refine J_callVi hC dX11_undo_19 wl_X11_141 yi_X11_refuses (c_X11_refuses_1 _ G m (us M 8 2 0) 1 (by first | assumption | rfl) (by decide)) rfl rfl 0 11 rfl rfl ⟨Nat.le_of_ble_eq_true rfl, Nat.le_of_ble_eq_true rfl⟩ (Nat.le_of_ble_eq_true rfl) (Nat.le_of_ble_eq_true rfl) (Nat.le_of_ble_eq_true rfl) (fun r u h_19 => ?_)
    obtain ⟨c_19, rfl, rfl⟩ := h_19
    rw [us_us]
    refine J_if_eq (tgt := 27) hC dX11_undo_22 (by decide) (fun c => absurd c (by decide)) (fun _ => ?_)
    refine J_iconst (v := 0) hC dX11_undo_25 rfl ?_
    refine J_iret hC hR dX11_undo_26 rfl (us M 8 2 1) ?_ ?_ (by decide) (by decide)
    · exact Or.inr (⟨c_10, rfl, rfl⟩)
    · rfl

set_option maxRecDepth 100000 in
set_option maxHeartbeats 4000000 in
theorem c_X11_print (l : Launch) (G : gT) (m : Nat → Nat) (M : CT) (vc : Nat) (bc : Nat) (un : Nat) (u0 : Nat) (v : Int32) (d : Int32) (w : Int32) (hvc : M 0 6 = nI vc) (bvc : vc ≤ 6) (hbc : M 0 8 = nI bc) (bbc : bc ≤ 30) (hun : M 8 0 = nI un) (bun : un ≤ 8) (hu0 : M 8 1 = nI u0) (bu0 : u0 ≤ 7) : MI l yX11_print cX11_print 4 (some .int) { frames := 3, cells := 0, slots := 0, locals := 66 } [.ref (m 0), .int v, .int d, .int w] G (mdW G m M) (fun r (u : CT) => ((inr v vc ∧ inr w 3 ∧ m_why (M 0) v d bc = 0) ∧ nI (bc / 4) = r ∧ (ur (us (us (ur (us M 8 2 0) 3 (va_cpy (M 0) (M 3) 0 (242 * ((u0 + un) % 8)) 242)) 8 1 (nI (if un = 8 then (u0 + 1) % 8 else u0))) 8 0 (nI (min (un + 1) 8))) 0 (m_prints (M 0) v d w bc)) = u) ∨ ((¬ inr v vc) ∧ 0 = r ∧ (us M 8 2 1) = u) ∨ ((inr v vc ∧ ¬ inr w 3) ∧ 0 = r ∧ (us M 8 2 2) = u) ∨ ((inr v vc ∧ inr w 3 ∧ ¬ m_why (M 0) v d bc = 0) ∧ 0 = r ∧ (us M 8 2 3) = u)) (fun u => mdW G m u) := by
  refine jm_i (own := RX11) (by decide) rfl (Nat.le_of_ble_eq_true rfl) (fun x hl hC hR hN => ?_)
  subst hl
  refine J_aload_n hC dX11_print_0 0 rfl rfl ?_
  refine J_iload_n hC dX11_print_1 1 rfl rfl ?_
  refine J_callVi hC dX11_print_2 wl_X11_284 yi_X11_noVillage (c_X11_noVillage _ G m M vc v (hvc) (by omega)) rfl rfl 0 11 rfl rfl ⟨Nat.le_of_ble_eq_true rfl, Nat.le_of_ble_eq_true rfl⟩ (Nat.le_of_ble_eq_true rfl) (Nat.le_of_ble_eq_true rfl) (Nat.le_of_ble_eq_true rfl) (fun r u h_2 => ?_)
  rcases h_2 with ⟨c_2, rfl, rfl⟩ | ⟨c_2, rfl, rfl⟩
  · refine J_if_ne (tgt := 43) hC dX11_print_5 (by decide) (fun c => absurd (by decide) c) (fun _ => ?_)
    refine J_aload_n hC dX11_print_8 0 rfl rfl ?_
    refine J_iload_n hC dX11_print_9 3 rfl rfl ?_
    refine J_iconst (v := 0) hC dX11_print_10 rfl ?_
    refine J_iconst (v := 2) hC dX11_print_11 rfl ?_
    refine J_callVi hC dX11_print_12 wl_X11_303 yi_X11_out (c_X11_out _ G m (us M 8 2 0) w 0 2 (by first | assumption | rfl)) rfl rfl 0 11 rfl rfl ⟨Nat.le_of_ble_eq_true rfl, Nat.le_of_ble_eq_true rfl⟩ (Nat.le_of_ble_eq_true rfl) (Nat.le_of_ble_eq_true rfl) (Nat.le_of_ble_eq_true rfl) (fun r u h_12 => ?_)
    rcases h_12 with ⟨c_12, rfl, rfl⟩ | ⟨c_12, rfl, rfl⟩
    · refine J_if_ne (tgt := 43) hC dX11_print_15 (by decide) (fun c => absurd (by decide) c) (fun _ => ?_)
      refine J_aload_n hC dX11_print_18 0 rfl rfl ?_
      refine J_aload_n hC dX11_print_19 0 rfl rfl ?_
      refine J_get (v := .ref (m 1)) hC wu_X11 rfl dX11_print_20 0 0 (by decide) wf_X11_7 rfl rfl ?_
      refine J_iload_n hC dX11_print_23 1 rfl rfl ?_
      refine J_iload_n hC dX11_print_24 2 rfl rfl ?_
      refine J_callSi hC dX11_print_25 wl_X11_229 wi_X11 yi_X11_whyNotPrint (mdl0_ir (c_X11_whyNotPrint _ G (m 1) (M 0) bc v d (hbc) (by omega))) rfl rfl ⟨Nat.le_of_ble_eq_true rfl, Nat.le_of_ble_eq_true rfl⟩ (Nat.le_of_ble_eq_true rfl) (Nat.le_of_ble_eq_true rfl) (Nat.le_of_ble_eq_true rfl) (fun r u h_25 => ?_)
      subst h_25
      refine J_if_eq (tgt := 35) hC dX11_print_28 (by decide) (fun (c_28 : (m_why (M 0) v d bc) = 0) => ?_) (fun (c_28 : ¬ (m_why (M 0) v d bc) = 0) => ?_)
      · refine J_iconst (v := 0) hC dX11_print_35 rfl ?_
        refine J_iconst (v := 3) hC dX11_print_36 rfl ?_
        refine J_callVi hC dX11_print_37 wl_X11_141 yi_X11_refuses (c_X11_refuses_0 _ G m (us M 8 2 0) 3 (by first | assumption | rfl)) rfl rfl 0 11 rfl rfl ⟨Nat.le_of_ble_eq_true rfl, Nat.le_of_ble_eq_true rfl⟩ (Nat.le_of_ble_eq_true rfl) (Nat.le_of_ble_eq_true rfl) (Nat.le_of_ble_eq_true rfl) (fun r u h_37 => ?_)
        obtain ⟨c_37, rfl, rfl⟩ := h_37
        refine J_if_eq (tgt := 45) hC dX11_print_40 (by decide) (fun _ => ?_) (fun c => absurd (by decide) c)
        refine J_aload_n hC dX11_print_45 0 rfl rfl ?_
        refine J_callVv hC dX11_print_46 wl_X11_275 yi_X11_remember (c_X11_remember _ G m (us M 8 2 0) un u0 (hun) (by omega) (hu0) (by omega)) rfl rfl 0 11 rfl rfl ⟨Nat.le_of_ble_eq_true rfl, Nat.le_of_ble_eq_true rfl⟩ (Nat.le_of_ble_eq_true rfl) (Nat.le_of_ble_eq_true rfl) (Nat.le_of_ble_eq_true rfl) (fun _ _ => ?_)
        have hb30 := m_why0 c_28
        refine J_aload_n hC dX11_print_49 0 rfl rfl ?_
        refine J_get (v := .ref (m 1)) hC wu_X11 rfl dX11_print_50 0 0 (by decide) wf_X11_7 rfl rfl ?_
        refine J_iload_n hC dX11_print_53 1 rfl rfl ?_
        refine J_iload_n hC dX11_print_54 2 rfl rfl ?_
        refine J_iload_n hC dX11_print_55 3 rfl rfl ?_
        refine J_callSi hC dX11_print_56 wl_X11_232 wi_X11 yi_X11_prints (mdl0_i (c_X11_prints _ G (m 1) (M 0) bc v d w (hbc) (by omega))) rfl rfl ⟨Nat.le_of_ble_eq_true rfl, Nat.le_of_ble_eq_true rfl⟩ (Nat.le_of_ble_eq_true rfl) (Nat.le_of_ble_eq_true rfl) (Nat.le_of_ble_eq_true rfl) (fun r u h_56 => ?_)
        subst h_56
        refine J_iret hC hR dX11_print_59 rfl (ur (us (us (ur (us M 8 2 0) 3 (va_cpy (M 0) (M 3) 0 (242 * ((u0 + un) % 8)) 242)) 8 1 (nI (if un = 8 then (u0 + 1) % 8 else u0))) 8 0 (nI (min (un + 1) 8))) 0 (m_prints (M 0) v d w bc)) ?_ ?_ (by decide) (by decide)
        · exact Or.inl ⟨⟨c_2, (inr_le (n := 2) (by omega)).mp c_12, c_28⟩, rfl, rfl⟩
        · rfl
      · refine J_iconst (v := 1) hC dX11_print_31 rfl ?_
        refine J_goto (tgt := 36) hC dX11_print_32 (by decide) ?_
        refine J_iconst (v := 3) hC dX11_print_36 rfl ?_
        refine J_callVi hC dX11_print_37 wl_X11_141 yi_X11_refuses (c_X11_refuses_1 _ G m (us M 8 2 0) 3 (by first | assumption | rfl) (by decide)) rfl rfl 0 11 rfl rfl ⟨Nat.le_of_ble_eq_true rfl, Nat.le_of_ble_eq_true rfl⟩ (Nat.le_of_ble_eq_true rfl) (Nat.le_of_ble_eq_true rfl) (Nat.le_of_ble_eq_true rfl) (fun r u h_37 => ?_)
        obtain ⟨c_37, rfl, rfl⟩ := h_37
        rw [us_us]
        refine J_if_eq (tgt := 45) hC dX11_print_40 (by decide) (fun c => absurd c (by decide)) (fun _ => ?_)
        refine J_iconst (v := 0) hC dX11_print_43 rfl ?_
        refine J_iret hC hR dX11_print_44 rfl (us M 8 2 3) ?_ ?_ (by decide) (by decide)
        · exact Or.inr (Or.inr (Or.inr (⟨⟨c_2, (inr_le (n := 2) (by omega)).mp c_12, c_28⟩, rfl, rfl⟩)))
        · rfl
    · rw [us_us]
      refine J_if_ne (tgt := 43) hC dX11_print_15 (by decide) (fun _ => ?_) (fun c => absurd c (by decide))
      refine J_iconst (v := 0) hC dX11_print_43 rfl ?_
      refine J_iret hC hR dX11_print_44 rfl (us M 8 2 2) ?_ ?_ (by decide) (by decide)
      · exact Or.inr (Or.inr (Or.inl ⟨⟨c_2, mt (inr_le (n := 2) (by omega)).mpr c_12⟩, rfl, rfl⟩))
      · rfl
  · refine J_if_ne (tgt := 43) hC dX11_print_5 (by decide) (fun _ => ?_) (fun c => absurd c (by decide))
    refine J_iconst (v := 0) hC dX11_print_43 rfl ?_
    refine J_iret hC hR dX11_print_44 rfl (us M 8 2 1) ?_ ?_ (by decide) (by decide)
    · exact Or.inr (Or.inl ⟨c_2, rfl, rfl⟩)
    · rfl

set_option maxRecDepth 100000 in
set_option maxHeartbeats 4000000 in
theorem c_X11_retract (l : Launch) (G : gT) (m : Nat → Nat) (M : CT) (bc : Nat) (vc : Nat) (fc : Nat) (mc : Nat) (un : Nat) (u0 : Nat) (v : Int32) (hbc : M 0 8 = nI bc) (bbc : bc ≤ 30) (hvc : M 0 6 = nI vc) (bvc : vc ≤ 6) (hfc : M 0 7 = nI fc) (bfc : fc ≤ 6) (hmc : M 0 9 = nI mc) (bmc : mc ≤ 10) (hun : M 8 0 = nI un) (bun : un ≤ 8) (hu0 : M 8 1 = nI u0) (bu0 : u0 ≤ 7) (hmI : mI (M 0) bc vc fc mc) : MI l yX11_retract cX11_retract 2 (some .int) { frames := 3, cells := 0, slots := 0, locals := 68 } [.ref (m 0), .int v] G (mdW G m M) (fun r (u : CT) => ((inr v ((bc + 4 - 1) / 4) ∧ m_refund (M 0) (cl v) bc ≤ M 0 4) ∧ m_refund (M 0) (cl v) bc = r ∧ (ur (us (us (ur (us M 8 2 0) 3 (va_cpy (M 0) (M 3) 0 (242 * ((u0 + un) % 8)) 242)) 8 1 (nI (if un = 8 then (u0 + 1) % 8 else u0))) 8 0 (nI (min (un + 1) 8))) 0 (m_retracts (M 0) (cl v) bc)) = u) ∨ ((¬ inr v ((bc + 4 - 1) / 4)) ∧ 0 = r ∧ (us M 8 2 1) = u) ∨ ((inr v ((bc + 4 - 1) / 4) ∧ ¬ m_refund (M 0) (cl v) bc ≤ M 0 4) ∧ 0 = r ∧ (us M 8 2 2) = u)) (fun u => mdW G m u) := by
  refine jm_i (own := RX11) (by decide) rfl (Nat.le_of_ble_eq_true rfl) (fun x hl hC hR hN => ?_)
  subst hl
  refine J_aload_n hC dX11_retract_0 0 rfl rfl ?_
  refine J_iload_n hC dX11_retract_1 1 rfl rfl ?_
  refine J_callVi hC dX11_retract_2 wl_X11_300 yi_X11_noPage (c_X11_noPage _ G m M bc v (hbc) (by omega)) rfl rfl 0 11 rfl rfl ⟨Nat.le_of_ble_eq_true rfl, Nat.le_of_ble_eq_true rfl⟩ (Nat.le_of_ble_eq_true rfl) (Nat.le_of_ble_eq_true rfl) (Nat.le_of_ble_eq_true rfl) (fun r u h_2 => ?_)
  rcases h_2 with ⟨c_2, rfl, rfl⟩ | ⟨c_2, rfl, rfl⟩
  · refine J_if_ne (tgt := 38) hC dX11_retract_5 (by decide) (fun c => absurd (by decide) c) (fun _ => ?_)
    obtain ⟨ev, hv⟩ := inr_eq c_2 (by omega)
    refine J_lvq (lv' := [(0, .ref (m 0)), (1, .int (nI (cl v)))]) (by rw [← ev]; first | done | rfl) ?_
    refine J_aload_n hC dX11_retract_8 0 rfl rfl ?_
    refine J_aload_n hC dX11_retract_9 0 rfl rfl ?_
    refine J_get (v := .ref (m 1)) hC wu_X11 rfl dX11_retract_10 0 0 (by decide) wf_X11_7 rfl rfl ?_
    refine J_iload_n hC dX11_retract_13 1 rfl rfl ?_
    refine J_callSi hC dX11_retract_14 wl_X11_84 wi_X11 yi_X11_refund (mdl0_ir (c_X11_refund _ G (m 1) (M 0) bc (cl v) (hbc) (by omega) (by omega))) rfl rfl ⟨Nat.le_of_ble_eq_true rfl, Nat.le_of_ble_eq_true rfl⟩ (Nat.le_of_ble_eq_true rfl) (Nat.le_of_ble_eq_true rfl) (Nat.le_of_ble_eq_true rfl) (fun r u h_14 => ?_)
    subst h_14
    refine J_aload_n hC dX11_retract_17 0 rfl rfl ?_
    refine J_get (v := .ref (m 1)) hC wu_X11 rfl dX11_retract_18 0 0 (by decide) wf_X11_7 rfl rfl ?_
    refine J_iconst (v := 4) hC dX11_retract_21 rfl ?_
    refine J_iald (i := 4) (v := M 0 4) hC dX11_retract_22 1 rfl (by omega) (by decide) rfl ?_
    refine J_ic_le (tgt := 30) hC dX11_retract_23 (by decide) (fun (c_23 : (m_refund (M 0) (cl v) bc) ≤ (M 0 4)) => ?_) (fun (c_23 : ¬ (m_refund (M 0) (cl v) bc) ≤ (M 0 4)) => ?_)
    · refine J_iconst (v := 0) hC dX11_retract_30 rfl ?_
      refine J_iconst (v := 2) hC dX11_retract_31 rfl ?_
      refine J_callVi hC dX11_retract_32 wl_X11_141 yi_X11_refuses (c_X11_refuses_0 _ G m (us M 8 2 0) 2 (by first | assumption | rfl)) rfl rfl 0 11 rfl rfl ⟨Nat.le_of_ble_eq_true rfl, Nat.le_of_ble_eq_true rfl⟩ (Nat.le_of_ble_eq_true rfl) (Nat.le_of_ble_eq_true rfl) (Nat.le_of_ble_eq_true rfl) (fun r u h_32 => ?_)
      obtain ⟨c_32, rfl, rfl⟩ := h_32
      refine J_if_eq (tgt := 40) hC dX11_retract_35 (by decide) (fun _ => ?_) (fun c => absurd (by decide) c)
      refine J_aload_n hC dX11_retract_40 0 rfl rfl ?_
      refine J_callVv hC dX11_retract_41 wl_X11_275 yi_X11_remember (c_X11_remember _ G m (us M 8 2 0) un u0 (hun) (by omega) (hu0) (by omega)) rfl rfl 0 11 rfl rfl ⟨Nat.le_of_ble_eq_true rfl, Nat.le_of_ble_eq_true rfl⟩ (Nat.le_of_ble_eq_true rfl) (Nat.le_of_ble_eq_true rfl) (Nat.le_of_ble_eq_true rfl) (fun _ _ => ?_)
      refine J_aload_n hC dX11_retract_44 0 rfl rfl ?_
      refine J_get (v := .ref (m 1)) hC wu_X11 rfl dX11_retract_45 0 0 (by decide) wf_X11_7 rfl rfl ?_
      refine J_iload_n hC dX11_retract_48 1 rfl rfl ?_
      refine J_callSi hC dX11_retract_49 wl_X11_239 wi_X11 yi_X11_retracts (mdl0_i (c_X11_retracts _ G (m 1) (M 0) bc (cl v) (hbc) (by omega) (by omega) (fun k hk => by obtain ⟨w9, h9, e9⟩ := hmI.2.2.2.2.1 k hk; exact ⟨w9, by omega, e9⟩))) rfl rfl ⟨Nat.le_of_ble_eq_true rfl, Nat.le_of_ble_eq_true rfl⟩ (Nat.le_of_ble_eq_true rfl) (Nat.le_of_ble_eq_true rfl) (Nat.le_of_ble_eq_true rfl) (fun r u h_49 => ?_)
      subst h_49
      refine J_iret hC hR dX11_retract_52 rfl (ur (us (us (ur (us M 8 2 0) 3 (va_cpy (M 0) (M 3) 0 (242 * ((u0 + un) % 8)) 242)) 8 1 (nI (if un = 8 then (u0 + 1) % 8 else u0))) 8 0 (nI (min (un + 1) 8))) 0 (m_retracts (M 0) (cl v) bc)) ?_ ?_ (by decide) (by decide)
      · exact Or.inl ⟨⟨c_2, c_23⟩, rfl, rfl⟩
      · rfl
    · refine J_iconst (v := 1) hC dX11_retract_26 rfl ?_
      refine J_goto (tgt := 31) hC dX11_retract_27 (by decide) ?_
      refine J_iconst (v := 2) hC dX11_retract_31 rfl ?_
      refine J_callVi hC dX11_retract_32 wl_X11_141 yi_X11_refuses (c_X11_refuses_1 _ G m (us M 8 2 0) 2 (by first | assumption | rfl) (by decide)) rfl rfl 0 11 rfl rfl ⟨Nat.le_of_ble_eq_true rfl, Nat.le_of_ble_eq_true rfl⟩ (Nat.le_of_ble_eq_true rfl) (Nat.le_of_ble_eq_true rfl) (Nat.le_of_ble_eq_true rfl) (fun r u h_32 => ?_)
      obtain ⟨c_32, rfl, rfl⟩ := h_32
      rw [us_us]
      refine J_if_eq (tgt := 40) hC dX11_retract_35 (by decide) (fun c => absurd c (by decide)) (fun _ => ?_)
      refine J_iconst (v := 0) hC dX11_retract_38 rfl ?_
      refine J_iret hC hR dX11_retract_39 rfl (us M 8 2 2) ?_ ?_ (by decide) (by decide)
      · exact Or.inr (Or.inr (⟨⟨c_2, c_23⟩, rfl, rfl⟩))
      · rfl
  · refine J_if_ne (tgt := 38) hC dX11_retract_5 (by decide) (fun _ => ?_) (fun c => absurd c (by decide))
    refine J_iconst (v := 0) hC dX11_retract_38 rfl ?_
    refine J_iret hC hR dX11_retract_39 rfl (us M 8 2 1) ?_ ?_ (by decide) (by decide)
    · exact Or.inr (Or.inl ⟨c_2, rfl, rfl⟩)
    · rfl

set_option maxRecDepth 100000 in
set_option maxHeartbeats 4000000 in
theorem c_X11_setTrust (l : Launch) (G : gT) (m : Nat → Nat) (M : CT) (vc : Nat) (un : Nat) (u0 : Nat) (v : Int32) (y : Int32) (hvc : M 0 6 = nI vc) (bvc : vc ≤ 6) (hun : M 8 0 = nI un) (bun : un ≤ 8) (hu0 : M 8 1 = nI u0) (bu0 : u0 ≤ 7) : MI l yX11_setTrust cX11_setTrust 4 (some .int) { frames := 3, cells := 0, slots := 0, locals := 66 } [.ref (m 0), .int v, .int y] G (mdW G m M) (fun r (u : CT) => ((inr v vc ∧ (¬ y < 0 ∧ ¬ 100 < y)) ∧ M 0 (26 + 3 * cl v) = r ∧ (us (us (us (ur (us M 8 2 0) 3 (va_cpy (M 0) (M 3) 0 (242 * ((u0 + un) % 8)) 242)) 8 1 (nI (if un = 8 then (u0 + 1) % 8 else u0))) 8 0 (nI (min (un + 1) 8))) 0 (26 + 3 * cl v) y) = u) ∨ ((¬ inr v vc) ∧ 0 = r ∧ (us M 8 2 1) = u) ∨ ((inr v vc ∧ ¬ (¬ y < 0 ∧ ¬ 100 < y)) ∧ 0 = r ∧ (us M 8 2 2) = u)) (fun u => mdW G m u) := by
  refine jm_i (own := RX11) (by decide) rfl (Nat.le_of_ble_eq_true rfl) (fun x hl hC hR hN => ?_)
  subst hl
  refine J_aload_n hC dX11_setTrust_0 0 rfl rfl ?_
  refine J_iload_n hC dX11_setTrust_1 1 rfl rfl ?_
  refine J_callVi hC dX11_setTrust_2 wl_X11_284 yi_X11_noVillage (c_X11_noVillage _ G m M vc v (hvc) (by omega)) rfl rfl 0 11 rfl rfl ⟨Nat.le_of_ble_eq_true rfl, Nat.le_of_ble_eq_true rfl⟩ (Nat.le_of_ble_eq_true rfl) (Nat.le_of_ble_eq_true rfl) (Nat.le_of_ble_eq_true rfl) (fun r u h_2 => ?_)
  rcases h_2 with ⟨c_2, rfl, rfl⟩ | ⟨c_2, rfl, rfl⟩
  · refine J_if_ne (tgt := 19) hC dX11_setTrust_5 (by decide) (fun c => absurd (by decide) c) (fun _ => ?_)
    refine J_aload_n hC dX11_setTrust_8 0 rfl rfl ?_
    refine J_iload_n hC dX11_setTrust_9 2 rfl rfl ?_
    refine J_iconst (v := 0) hC dX11_setTrust_10 rfl ?_
    refine J_bipush (v := 100) hC dX11_setTrust_11 (by decide +kernel) ?_
    refine J_callVi hC dX11_setTrust_13 wl_X11_303 yi_X11_out (c_X11_out _ G m (us M 8 2 0) y 0 100 (by first | assumption | rfl)) rfl rfl 0 11 rfl rfl ⟨Nat.le_of_ble_eq_true rfl, Nat.le_of_ble_eq_true rfl⟩ (Nat.le_of_ble_eq_true rfl) (Nat.le_of_ble_eq_true rfl) (Nat.le_of_ble_eq_true rfl) (fun r u h_13 => ?_)
    rcases h_13 with ⟨c_13, rfl, rfl⟩ | ⟨c_13, rfl, rfl⟩
    · refine J_if_eq (tgt := 21) hC dX11_setTrust_16 (by decide) (fun _ => ?_) (fun c => absurd (by decide) c)
      obtain ⟨ev, hv⟩ := inr_eq c_2 (by omega)
      refine J_lvq (lv' := [(0, .ref (m 0)), (1, .int (nI (cl v))), (2, .int y)]) (by rw [← ev]; first | done | rfl) ?_
      refine J_aload_n hC dX11_setTrust_21 0 rfl rfl ?_
      refine J_callVv hC dX11_setTrust_22 wl_X11_275 yi_X11_remember (c_X11_remember _ G m (us M 8 2 0) un u0 (hun) (by omega) (hu0) (by omega)) rfl rfl 0 11 rfl rfl ⟨Nat.le_of_ble_eq_true rfl, Nat.le_of_ble_eq_true rfl⟩ (Nat.le_of_ble_eq_true rfl) (Nat.le_of_ble_eq_true rfl) (Nat.le_of_ble_eq_true rfl) (fun _ _ => ?_)
      refine J_aload_n hC dX11_setTrust_25 0 rfl rfl ?_
      refine J_get (v := .ref (m 1)) hC wu_X11 rfl dX11_setTrust_26 0 0 (by decide) wf_X11_7 rfl rfl ?_
      refine J_iload_n hC dX11_setTrust_29 1 rfl rfl ?_
      refine J_callSi hC dX11_setTrust_30 wl_X11_81 wi_X11 yi_X11_ofVillage (c_X11_ofVillage _ G (mdW G m (us (us (ur (us M 8 2 0) 3 (va_cpy (M 0) (M 3) 0 (242 * ((u0 + un) % 8)) 242)) 8 1 (nI (if un = 8 then (u0 + 1) % 8 else u0))) 8 0 (nI (min (un + 1) 8)))) (cl v)) rfl rfl ⟨Nat.le_of_ble_eq_true rfl, Nat.le_of_ble_eq_true rfl⟩ (Nat.le_of_ble_eq_true rfl) (Nat.le_of_ble_eq_true rfl) (Nat.le_of_ble_eq_true rfl) (fun r u h_30 => ?_)
      subst h_30
      refine J_iconst (v := 2) hC dX11_setTrust_33 rfl ?_
      refine J_iadd (v := nI (26 + 3 * cl v)) hC dX11_setTrust_34 ((nI_add (24 + 3 * (cl v)) 2).trans (congrArg nI (by omega))) ?_
      refine J_iald (i := 26 + 3 * cl v) (v := M 0 (26 + 3 * cl v)) hC dX11_setTrust_35 1 rfl (by omega) (by decide) rfl ?_
      refine J_istore_n hC [(3, .int (M 0 (26 + 3 * cl v))), (0, .ref (m 0)), (1, .int (nI (cl v))), (2, .int y)] dX11_setTrust_36 rfl (by decide) rfl ?_
      refine J_aload_n hC dX11_setTrust_37 1 rfl rfl ?_
      refine J_get (v := .ref (m 1)) hC wu_X11 rfl dX11_setTrust_38 0 0 (by decide) wf_X11_7 rfl rfl ?_
      refine J_iload_n hC dX11_setTrust_41 2 rfl rfl ?_
      refine J_callSi hC dX11_setTrust_42 wl_X11_81 wi_X11 yi_X11_ofVillage (c_X11_ofVillage _ G (mdW G m (us (us (ur (us M 8 2 0) 3 (va_cpy (M 0) (M 3) 0 (242 * ((u0 + un) % 8)) 242)) 8 1 (nI (if un = 8 then (u0 + 1) % 8 else u0))) 8 0 (nI (min (un + 1) 8)))) (cl v)) rfl rfl ⟨Nat.le_of_ble_eq_true rfl, Nat.le_of_ble_eq_true rfl⟩ (Nat.le_of_ble_eq_true rfl) (Nat.le_of_ble_eq_true rfl) (Nat.le_of_ble_eq_true rfl) (fun r u h_42 => ?_)
      subst h_42
      refine J_iconst (v := 2) hC dX11_setTrust_45 rfl ?_
      refine J_iadd (v := nI (26 + 3 * cl v)) hC dX11_setTrust_46 ((nI_add (24 + 3 * (cl v)) 2).trans (congrArg nI (by omega))) ?_
      refine J_iload_n hC dX11_setTrust_47 3 rfl rfl ?_
      refine J_iast (i := 26 + 3 * cl v) (ws' := mdW G m (us (us (us (ur (us M 8 2 0) 3 (va_cpy (M 0) (M 3) 0 (242 * ((u0 + un) % 8)) 242)) 8 1 (nI (if un = 8 then (u0 + 1) % 8 else u0))) 8 0 (nI (min (un + 1) 8))) 0 (26 + 3 * cl v) y)) hC dX11_setTrust_48 1 rfl (by omega) (by decide) rfl ?_
      refine J_iload_n hC dX11_setTrust_49 0 rfl rfl ?_
      refine J_iret hC hR dX11_setTrust_50 rfl (us (us (us (ur (us M 8 2 0) 3 (va_cpy (M 0) (M 3) 0 (242 * ((u0 + un) % 8)) 242)) 8 1 (nI (if un = 8 then (u0 + 1) % 8 else u0))) 8 0 (nI (min (un + 1) 8))) 0 (26 + 3 * cl v) y) ?_ ?_ (by decide) (by decide)
      · exact Or.inl ⟨⟨c_2, c_13⟩, rfl, rfl⟩
      · rfl
    · rw [us_us]
      refine J_if_eq (tgt := 21) hC dX11_setTrust_16 (by decide) (fun c => absurd c (by decide)) (fun _ => ?_)
      refine J_iconst (v := 0) hC dX11_setTrust_19 rfl ?_
      refine J_iret hC hR dX11_setTrust_20 rfl (us M 8 2 2) ?_ ?_ (by decide) (by decide)
      · exact Or.inr (Or.inr (⟨⟨c_2, c_13⟩, rfl, rfl⟩))
      · rfl
  · refine J_if_ne (tgt := 19) hC dX11_setTrust_5 (by decide) (fun _ => ?_) (fun c => absurd c (by decide))
    refine J_iconst (v := 0) hC dX11_setTrust_19 rfl ?_
    refine J_iret hC hR dX11_setTrust_20 rfl (us M 8 2 1) ?_ ?_ (by decide) (by decide)
    · exact Or.inr (Or.inl ⟨c_2, rfl, rfl⟩)
    · rfl

set_option maxRecDepth 100000 in
set_option maxHeartbeats 4000000 in
theorem c_X11_setPeople (l : Launch) (G : gT) (m : Nat → Nat) (M : CT) (vc : Nat) (un : Nat) (u0 : Nat) (v : Int32) (y : Int32) (hvc : M 0 6 = nI vc) (bvc : vc ≤ 6) (hun : M 8 0 = nI un) (bun : un ≤ 8) (hu0 : M 8 1 = nI u0) (bu0 : u0 ≤ 7) : MI l yX11_setPeople cX11_setPeople 4 (some .int) { frames := 3, cells := 0, slots := 0, locals := 66 } [.ref (m 0), .int v, .int y] G (mdW G m M) (fun r (u : CT) => ((inr v vc ∧ (¬ y < 1 ∧ ¬ 99 < y)) ∧ M 0 (25 + 3 * cl v) = r ∧ (us (us (us (ur (us M 8 2 0) 3 (va_cpy (M 0) (M 3) 0 (242 * ((u0 + un) % 8)) 242)) 8 1 (nI (if un = 8 then (u0 + 1) % 8 else u0))) 8 0 (nI (min (un + 1) 8))) 0 (25 + 3 * cl v) y) = u) ∨ ((¬ inr v vc) ∧ 0 = r ∧ (us M 8 2 1) = u) ∨ ((inr v vc ∧ ¬ (¬ y < 1 ∧ ¬ 99 < y)) ∧ 0 = r ∧ (us M 8 2 2) = u)) (fun u => mdW G m u) := by
  refine jm_i (own := RX11) (by decide) rfl (Nat.le_of_ble_eq_true rfl) (fun x hl hC hR hN => ?_)
  subst hl
  refine J_aload_n hC dX11_setPeople_0 0 rfl rfl ?_
  refine J_iload_n hC dX11_setPeople_1 1 rfl rfl ?_
  refine J_callVi hC dX11_setPeople_2 wl_X11_284 yi_X11_noVillage (c_X11_noVillage _ G m M vc v (hvc) (by omega)) rfl rfl 0 11 rfl rfl ⟨Nat.le_of_ble_eq_true rfl, Nat.le_of_ble_eq_true rfl⟩ (Nat.le_of_ble_eq_true rfl) (Nat.le_of_ble_eq_true rfl) (Nat.le_of_ble_eq_true rfl) (fun r u h_2 => ?_)
  rcases h_2 with ⟨c_2, rfl, rfl⟩ | ⟨c_2, rfl, rfl⟩
  · refine J_if_ne (tgt := 19) hC dX11_setPeople_5 (by decide) (fun c => absurd (by decide) c) (fun _ => ?_)
    refine J_aload_n hC dX11_setPeople_8 0 rfl rfl ?_
    refine J_iload_n hC dX11_setPeople_9 2 rfl rfl ?_
    refine J_iconst (v := 1) hC dX11_setPeople_10 rfl ?_
    refine J_bipush (v := 99) hC dX11_setPeople_11 (by decide +kernel) ?_
    refine J_callVi hC dX11_setPeople_13 wl_X11_303 yi_X11_out (c_X11_out _ G m (us M 8 2 0) y 1 99 (by first | assumption | rfl)) rfl rfl 0 11 rfl rfl ⟨Nat.le_of_ble_eq_true rfl, Nat.le_of_ble_eq_true rfl⟩ (Nat.le_of_ble_eq_true rfl) (Nat.le_of_ble_eq_true rfl) (Nat.le_of_ble_eq_true rfl) (fun r u h_13 => ?_)
    rcases h_13 with ⟨c_13, rfl, rfl⟩ | ⟨c_13, rfl, rfl⟩
    · refine J_if_eq (tgt := 21) hC dX11_setPeople_16 (by decide) (fun _ => ?_) (fun c => absurd (by decide) c)
      obtain ⟨ev, hv⟩ := inr_eq c_2 (by omega)
      refine J_lvq (lv' := [(0, .ref (m 0)), (1, .int (nI (cl v))), (2, .int y)]) (by rw [← ev]; first | done | rfl) ?_
      refine J_aload_n hC dX11_setPeople_21 0 rfl rfl ?_
      refine J_callVv hC dX11_setPeople_22 wl_X11_275 yi_X11_remember (c_X11_remember _ G m (us M 8 2 0) un u0 (hun) (by omega) (hu0) (by omega)) rfl rfl 0 11 rfl rfl ⟨Nat.le_of_ble_eq_true rfl, Nat.le_of_ble_eq_true rfl⟩ (Nat.le_of_ble_eq_true rfl) (Nat.le_of_ble_eq_true rfl) (Nat.le_of_ble_eq_true rfl) (fun _ _ => ?_)
      refine J_aload_n hC dX11_setPeople_25 0 rfl rfl ?_
      refine J_get (v := .ref (m 1)) hC wu_X11 rfl dX11_setPeople_26 0 0 (by decide) wf_X11_7 rfl rfl ?_
      refine J_iload_n hC dX11_setPeople_29 1 rfl rfl ?_
      refine J_callSi hC dX11_setPeople_30 wl_X11_81 wi_X11 yi_X11_ofVillage (c_X11_ofVillage _ G (mdW G m (us (us (ur (us M 8 2 0) 3 (va_cpy (M 0) (M 3) 0 (242 * ((u0 + un) % 8)) 242)) 8 1 (nI (if un = 8 then (u0 + 1) % 8 else u0))) 8 0 (nI (min (un + 1) 8)))) (cl v)) rfl rfl ⟨Nat.le_of_ble_eq_true rfl, Nat.le_of_ble_eq_true rfl⟩ (Nat.le_of_ble_eq_true rfl) (Nat.le_of_ble_eq_true rfl) (Nat.le_of_ble_eq_true rfl) (fun r u h_30 => ?_)
      subst h_30
      refine J_iconst (v := 1) hC dX11_setPeople_33 rfl ?_
      refine J_iadd (v := nI (25 + 3 * cl v)) hC dX11_setPeople_34 ((nI_add (24 + 3 * (cl v)) 1).trans (congrArg nI (by omega))) ?_
      refine J_iald (i := 25 + 3 * cl v) (v := M 0 (25 + 3 * cl v)) hC dX11_setPeople_35 1 rfl (by omega) (by decide) rfl ?_
      refine J_istore_n hC [(3, .int (M 0 (25 + 3 * cl v))), (0, .ref (m 0)), (1, .int (nI (cl v))), (2, .int y)] dX11_setPeople_36 rfl (by decide) rfl ?_
      refine J_aload_n hC dX11_setPeople_37 1 rfl rfl ?_
      refine J_get (v := .ref (m 1)) hC wu_X11 rfl dX11_setPeople_38 0 0 (by decide) wf_X11_7 rfl rfl ?_
      refine J_iload_n hC dX11_setPeople_41 2 rfl rfl ?_
      refine J_callSi hC dX11_setPeople_42 wl_X11_81 wi_X11 yi_X11_ofVillage (c_X11_ofVillage _ G (mdW G m (us (us (ur (us M 8 2 0) 3 (va_cpy (M 0) (M 3) 0 (242 * ((u0 + un) % 8)) 242)) 8 1 (nI (if un = 8 then (u0 + 1) % 8 else u0))) 8 0 (nI (min (un + 1) 8)))) (cl v)) rfl rfl ⟨Nat.le_of_ble_eq_true rfl, Nat.le_of_ble_eq_true rfl⟩ (Nat.le_of_ble_eq_true rfl) (Nat.le_of_ble_eq_true rfl) (Nat.le_of_ble_eq_true rfl) (fun r u h_42 => ?_)
      subst h_42
      refine J_iconst (v := 1) hC dX11_setPeople_45 rfl ?_
      refine J_iadd (v := nI (25 + 3 * cl v)) hC dX11_setPeople_46 ((nI_add (24 + 3 * (cl v)) 1).trans (congrArg nI (by omega))) ?_
      refine J_iload_n hC dX11_setPeople_47 3 rfl rfl ?_
      refine J_iast (i := 25 + 3 * cl v) (ws' := mdW G m (us (us (us (ur (us M 8 2 0) 3 (va_cpy (M 0) (M 3) 0 (242 * ((u0 + un) % 8)) 242)) 8 1 (nI (if un = 8 then (u0 + 1) % 8 else u0))) 8 0 (nI (min (un + 1) 8))) 0 (25 + 3 * cl v) y)) hC dX11_setPeople_48 1 rfl (by omega) (by decide) rfl ?_
      refine J_iload_n hC dX11_setPeople_49 0 rfl rfl ?_
      refine J_iret hC hR dX11_setPeople_50 rfl (us (us (us (ur (us M 8 2 0) 3 (va_cpy (M 0) (M 3) 0 (242 * ((u0 + un) % 8)) 242)) 8 1 (nI (if un = 8 then (u0 + 1) % 8 else u0))) 8 0 (nI (min (un + 1) 8))) 0 (25 + 3 * cl v) y) ?_ ?_ (by decide) (by decide)
      · exact Or.inl ⟨⟨c_2, c_13⟩, rfl, rfl⟩
      · rfl
    · rw [us_us]
      refine J_if_eq (tgt := 21) hC dX11_setPeople_16 (by decide) (fun c => absurd c (by decide)) (fun _ => ?_)
      refine J_iconst (v := 0) hC dX11_setPeople_19 rfl ?_
      refine J_iret hC hR dX11_setPeople_20 rfl (us M 8 2 2) ?_ ?_ (by decide) (by decide)
      · exact Or.inr (Or.inr (⟨⟨c_2, c_13⟩, rfl, rfl⟩))
      · rfl
  · refine J_if_ne (tgt := 19) hC dX11_setPeople_5 (by decide) (fun _ => ?_) (fun c => absurd c (by decide))
    refine J_iconst (v := 0) hC dX11_setPeople_19 rfl ?_
    refine J_iret hC hR dX11_setPeople_20 rfl (us M 8 2 1) ?_ ?_ (by decide) (by decide)
    · exact Or.inr (Or.inl ⟨c_2, rfl, rfl⟩)
    · rfl

set_option maxRecDepth 100000 in
set_option maxHeartbeats 4000000 in
theorem c_X11_setOdds (l : Launch) (G : gT) (m : Nat → Nat) (M : CT) (un : Nat) (u0 : Nat) (v : Int32) (y : Int32) (hun : M 8 0 = nI un) (bun : un ≤ 8) (hu0 : M 8 1 = nI u0) (bu0 : u0 ≤ 7) : MI l yX11_setOdds cX11_setOdds 4 (some .int) { frames := 3, cells := 0, slots := 0, locals := 66 } [.ref (m 0), .int v, .int y] G (mdW G m M) (fun r (u : CT) => ((inr v 3 ∧ (¬ y < 0 ∧ ¬ 20 < y) ∧ ¬ m_allOdds (M 0) - M 0 (1 + cl v) + y = 0) ∧ M 0 (1 + cl v) = r ∧ (us (us (us (ur (us M 8 2 0) 3 (va_cpy (M 0) (M 3) 0 (242 * ((u0 + un) % 8)) 242)) 8 1 (nI (if un = 8 then (u0 + 1) % 8 else u0))) 8 0 (nI (min (un + 1) 8))) 0 (1 + cl v) y) = u) ∨ ((¬ inr v 3) ∧ 0 = r ∧ (us M 8 2 1) = u) ∨ ((inr v 3 ∧ ¬ (¬ y < 0 ∧ ¬ 20 < y)) ∧ 0 = r ∧ (us M 8 2 1) = u) ∨ ((inr v 3 ∧ (¬ y < 0 ∧ ¬ 20 < y) ∧ m_allOdds (M 0) - M 0 (1 + cl v) + y = 0) ∧ 0 = r ∧ (us M 8 2 2) = u)) (fun u => mdW G m u) := by
  refine jm_i (own := RX11) (by decide) rfl (Nat.le_of_ble_eq_true rfl) (fun x hl hC hR hN => ?_)
  subst hl
  refine J_aload_n hC dX11_setOdds_0 0 rfl rfl ?_
  refine J_iload_n hC dX11_setOdds_1 1 rfl rfl ?_
  refine J_callVi hC dX11_setOdds_2 wl_X11_290 yi_X11_noWeather (c_X11_noWeather _ G m M v) rfl rfl 0 11 rfl rfl ⟨Nat.le_of_ble_eq_true rfl, Nat.le_of_ble_eq_true rfl⟩ (Nat.le_of_ble_eq_true rfl) (Nat.le_of_ble_eq_true rfl) (Nat.le_of_ble_eq_true rfl) (fun r u h_2 => ?_)
  rcases h_2 with ⟨c_2, rfl, rfl⟩ | ⟨c_2, rfl, rfl⟩
  · refine J_if_ne (tgt := 65) hC dX11_setOdds_5 (by decide) (fun c => absurd (by decide) c) (fun _ => ?_)
    obtain ⟨ev, hv⟩ := inr_eq c_2 (by omega)
    refine J_lvq (lv' := [(0, .ref (m 0)), (1, .int (nI (cl v))), (2, .int y)]) (by rw [← ev]; first | done | rfl) ?_
    refine J_aload_n hC dX11_setOdds_8 0 rfl rfl ?_
    refine J_iload_n hC dX11_setOdds_9 2 rfl rfl ?_
    refine J_iconst (v := 0) hC dX11_setOdds_10 rfl ?_
    refine J_bipush (v := 20) hC dX11_setOdds_11 (by decide +kernel) ?_
    refine J_callSi hC dX11_setOdds_13 wl_X11_156 wi_X11 yi_X11_isBetween (c_X11_isBetween _ G (mdW G m (us M 8 2 0)) y 0 20) rfl rfl ⟨Nat.le_of_ble_eq_true rfl, Nat.le_of_ble_eq_true rfl⟩ (Nat.le_of_ble_eq_true rfl) (Nat.le_of_ble_eq_true rfl) (Nat.le_of_ble_eq_true rfl) (fun r u h_13 => ?_)
    rcases h_13 with ⟨rfl, c_13⟩ | ⟨rfl, c_13⟩
    · refine J_if_ne (tgt := 23) hC dX11_setOdds_16 (by decide) (fun _ => ?_) (fun c => absurd c (by decide))
      refine J_iconst (v := 0) hC dX11_setOdds_23 rfl ?_
      refine J_iconst (v := 1) hC dX11_setOdds_24 rfl ?_
      refine J_callVi hC dX11_setOdds_25 wl_X11_141 yi_X11_refuses (c_X11_refuses_0 _ G m (us M 8 2 0) 1 (by first | assumption | rfl)) rfl rfl 0 11 rfl rfl ⟨Nat.le_of_ble_eq_true rfl, Nat.le_of_ble_eq_true rfl⟩ (Nat.le_of_ble_eq_true rfl) (Nat.le_of_ble_eq_true rfl) (Nat.le_of_ble_eq_true rfl) (fun r u h_25 => ?_)
      obtain ⟨c_25, rfl, rfl⟩ := h_25
      refine J_if_ne (tgt := 65) hC dX11_setOdds_28 (by decide) (fun c => absurd (by decide) c) (fun _ => ?_)
      refine J_aload_n hC dX11_setOdds_31 0 rfl rfl ?_
      refine J_aload_n hC dX11_setOdds_32 0 rfl rfl ?_
      refine J_get (v := .ref (m 1)) hC wu_X11 rfl dX11_setOdds_33 0 0 (by decide) wf_X11_7 rfl rfl ?_
      refine J_callSi hC dX11_setOdds_36 wl_X11_108 wi_X11 yi_X11_allOdds (mdl0_ir (c_X11_allOdds _ G (m 1) (M 0))) rfl rfl ⟨Nat.le_of_ble_eq_true rfl, Nat.le_of_ble_eq_true rfl⟩ (Nat.le_of_ble_eq_true rfl) (Nat.le_of_ble_eq_true rfl) (Nat.le_of_ble_eq_true rfl) (fun r u h_36 => ?_)
      subst h_36
      refine J_aload_n hC dX11_setOdds_39 0 rfl rfl ?_
      refine J_get (v := .ref (m 1)) hC wu_X11 rfl dX11_setOdds_40 0 0 (by decide) wf_X11_7 rfl rfl ?_
      refine J_iconst (v := 1) hC dX11_setOdds_43 rfl ?_
      refine J_iload_n hC dX11_setOdds_44 1 rfl rfl ?_
      refine J_iadd (v := nI (1 + cl v)) hC dX11_setOdds_45 ((nI_add 1 (cl v)).trans (congrArg nI (by omega))) ?_
      refine J_iald (i := 1 + cl v) (v := M 0 (1 + cl v)) hC dX11_setOdds_46 1 rfl (by omega) (by decide) rfl ?_
      refine J_isub (v := (m_allOdds (M 0)) - (M 0 (1 + cl v))) hC dX11_setOdds_47 rfl ?_
      refine J_iload_n hC dX11_setOdds_48 2 rfl rfl ?_
      refine J_iadd (v := ((m_allOdds (M 0)) - (M 0 (1 + cl v))) + y) hC dX11_setOdds_49 rfl ?_
      refine J_if_ne (tgt := 57) hC dX11_setOdds_50 (by decide) (fun (c_50 : ¬ (((m_allOdds (M 0)) - (M 0 (1 + cl v))) + y) = 0) => ?_) (fun (c_50 : (((m_allOdds (M 0)) - (M 0 (1 + cl v))) + y) = 0) => ?_)
      · refine J_iconst (v := 0) hC dX11_setOdds_57 rfl ?_
        refine J_iconst (v := 2) hC dX11_setOdds_58 rfl ?_
        refine J_callVi hC dX11_setOdds_59 wl_X11_141 yi_X11_refuses (c_X11_refuses_0 _ G m (us M 8 2 0) 2 (by first | assumption | rfl)) rfl rfl 0 11 rfl rfl ⟨Nat.le_of_ble_eq_true rfl, Nat.le_of_ble_eq_true rfl⟩ (Nat.le_of_ble_eq_true rfl) (Nat.le_of_ble_eq_true rfl) (Nat.le_of_ble_eq_true rfl) (fun r u h_59 => ?_)
        obtain ⟨c_59, rfl, rfl⟩ := h_59
        refine J_if_eq (tgt := 67) hC dX11_setOdds_62 (by decide) (fun _ => ?_) (fun c => absurd (by decide) c)
        refine J_aload_n hC dX11_setOdds_67 0 rfl rfl ?_
        refine J_callVv hC dX11_setOdds_68 wl_X11_275 yi_X11_remember (c_X11_remember _ G m (us M 8 2 0) un u0 (hun) (by omega) (hu0) (by omega)) rfl rfl 0 11 rfl rfl ⟨Nat.le_of_ble_eq_true rfl, Nat.le_of_ble_eq_true rfl⟩ (Nat.le_of_ble_eq_true rfl) (Nat.le_of_ble_eq_true rfl) (Nat.le_of_ble_eq_true rfl) (fun _ _ => ?_)
        refine J_aload_n hC dX11_setOdds_71 0 rfl rfl ?_
        refine J_get (v := .ref (m 1)) hC wu_X11 rfl dX11_setOdds_72 0 0 (by decide) wf_X11_7 rfl rfl ?_
        refine J_iconst (v := 1) hC dX11_setOdds_75 rfl ?_
        refine J_iload_n hC dX11_setOdds_76 1 rfl rfl ?_
        refine J_iadd (v := nI (1 + cl v)) hC dX11_setOdds_77 ((nI_add 1 (cl v)).trans (congrArg nI (by omega))) ?_
        refine J_iald (i := 1 + cl v) (v := M 0 (1 + cl v)) hC dX11_setOdds_78 1 rfl (by omega) (by decide) rfl ?_
        refine J_istore_n hC [(3, .int (M 0 (1 + cl v))), (0, .ref (m 0)), (1, .int (nI (cl v))), (2, .int y)] dX11_setOdds_79 rfl (by decide) rfl ?_
        refine J_aload_n hC dX11_setOdds_80 1 rfl rfl ?_
        refine J_get (v := .ref (m 1)) hC wu_X11 rfl dX11_setOdds_81 0 0 (by decide) wf_X11_7 rfl rfl ?_
        refine J_iconst (v := 1) hC dX11_setOdds_84 rfl ?_
        refine J_iload_n hC dX11_setOdds_85 2 rfl rfl ?_
        refine J_iadd (v := nI (1 + cl v)) hC dX11_setOdds_86 ((nI_add 1 (cl v)).trans (congrArg nI (by omega))) ?_
        refine J_iload_n hC dX11_setOdds_87 3 rfl rfl ?_
        refine J_iast (i := 1 + cl v) (ws' := mdW G m (us (us (us (ur (us M 8 2 0) 3 (va_cpy (M 0) (M 3) 0 (242 * ((u0 + un) % 8)) 242)) 8 1 (nI (if un = 8 then (u0 + 1) % 8 else u0))) 8 0 (nI (min (un + 1) 8))) 0 (1 + cl v) y)) hC dX11_setOdds_88 1 rfl (by omega) (by decide) rfl ?_
        refine J_iload_n hC dX11_setOdds_89 0 rfl rfl ?_
        refine J_iret hC hR dX11_setOdds_90 rfl (us (us (us (ur (us M 8 2 0) 3 (va_cpy (M 0) (M 3) 0 (242 * ((u0 + un) % 8)) 242)) 8 1 (nI (if un = 8 then (u0 + 1) % 8 else u0))) 8 0 (nI (min (un + 1) 8))) 0 (1 + cl v) y) ?_ ?_ (by decide) (by decide)
        · exact Or.inl ⟨⟨c_2, c_13, c_50⟩, rfl, rfl⟩
        · rfl
      · refine J_iconst (v := 1) hC dX11_setOdds_53 rfl ?_
        refine J_goto (tgt := 58) hC dX11_setOdds_54 (by decide) ?_
        refine J_iconst (v := 2) hC dX11_setOdds_58 rfl ?_
        refine J_callVi hC dX11_setOdds_59 wl_X11_141 yi_X11_refuses (c_X11_refuses_1 _ G m (us M 8 2 0) 2 (by first | assumption | rfl) (by decide)) rfl rfl 0 11 rfl rfl ⟨Nat.le_of_ble_eq_true rfl, Nat.le_of_ble_eq_true rfl⟩ (Nat.le_of_ble_eq_true rfl) (Nat.le_of_ble_eq_true rfl) (Nat.le_of_ble_eq_true rfl) (fun r u h_59 => ?_)
        obtain ⟨c_59, rfl, rfl⟩ := h_59
        rw [us_us]
        refine J_if_eq (tgt := 67) hC dX11_setOdds_62 (by decide) (fun c => absurd c (by decide)) (fun _ => ?_)
        refine J_iconst (v := 0) hC dX11_setOdds_65 rfl ?_
        refine J_iret hC hR dX11_setOdds_66 rfl (us M 8 2 2) ?_ ?_ (by decide) (by decide)
        · exact Or.inr (Or.inr (Or.inr (⟨⟨c_2, c_13, c_50⟩, rfl, rfl⟩)))
        · rfl
    · refine J_if_ne (tgt := 23) hC dX11_setOdds_16 (by decide) (fun c => absurd (by decide) c) (fun _ => ?_)
      refine J_iconst (v := 1) hC dX11_setOdds_19 rfl ?_
      refine J_goto (tgt := 24) hC dX11_setOdds_20 (by decide) ?_
      refine J_iconst (v := 1) hC dX11_setOdds_24 rfl ?_
      refine J_callVi hC dX11_setOdds_25 wl_X11_141 yi_X11_refuses (c_X11_refuses_1 _ G m (us M 8 2 0) 1 (by first | assumption | rfl) (by decide)) rfl rfl 0 11 rfl rfl ⟨Nat.le_of_ble_eq_true rfl, Nat.le_of_ble_eq_true rfl⟩ (Nat.le_of_ble_eq_true rfl) (Nat.le_of_ble_eq_true rfl) (Nat.le_of_ble_eq_true rfl) (fun r u h_25 => ?_)
      obtain ⟨c_25, rfl, rfl⟩ := h_25
      rw [us_us]
      refine J_if_ne (tgt := 65) hC dX11_setOdds_28 (by decide) (fun _ => ?_) (fun c => absurd c (by decide))
      refine J_iconst (v := 0) hC dX11_setOdds_65 rfl ?_
      refine J_iret hC hR dX11_setOdds_66 rfl (us M 8 2 1) ?_ ?_ (by decide) (by decide)
      · exact Or.inr (Or.inr (Or.inl ⟨⟨c_2, c_13⟩, rfl, rfl⟩))
      · rfl
  · refine J_if_ne (tgt := 65) hC dX11_setOdds_5 (by decide) (fun _ => ?_) (fun c => absurd c (by decide))
    refine J_iconst (v := 0) hC dX11_setOdds_65 rfl ?_
    refine J_iret hC hR dX11_setOdds_66 rfl (us M 8 2 1) ?_ ?_ (by decide) (by decide)
    · exact Or.inr (Or.inl ⟨c_2, rfl, rfl⟩)
    · rfl

set_option maxRecDepth 100000 in
set_option maxHeartbeats 4000000 in
theorem c_X11_pass (l : Launch) (G : gT) (m : Nat → Nat) (M : CT) (bc : Nat) (vc : Nat) (fc : Nat) (mc : Nat) (un : Nat) (u0 : Nat) (v : Int32) (hbc : M 0 8 = nI bc) (bbc : bc ≤ 30) (hvc : M 0 6 = nI vc) (bvc : vc ≤ 6) (hfc : M 0 7 = nI fc) (bfc : fc ≤ 6) (hmc : M 0 9 = nI mc) (bmc : mc ≤ 10) (hun : M 8 0 = nI un) (bun : un ≤ 8) (hu0 : M 8 1 = nI u0) (bu0 : u0 ≤ 7) (hmI : mI (M 0) bc vc fc mc) : MI l yX11_pass cX11_pass 2 (some .int) { frames := 5, cells := 0, slots := 0, locals := 114 } [.ref (m 0), .int v] G (mdW G m M) (fun r (u : CT) => ((¬ v < 1 ∧ ¬ 200 < v) ∧ m_days (cl v) (M 0) 11 - M 0 11 = r ∧ (ur (us (us (ur (us M 8 2 0) 3 (va_cpy (M 0) (M 3) 0 (242 * ((u0 + un) % 8)) 242)) 8 1 (nI (if un = 8 then (u0 + 1) % 8 else u0))) 8 0 (nI (min (un + 1) 8))) 0 (m_days (cl v) (M 0))) = u) ∨ ((¬ (¬ v < 1 ∧ ¬ 200 < v)) ∧ 0 = r ∧ (us M 8 2 1) = u)) (fun u => mdW G m u) := by
  refine jm_i (own := RX11) (by decide) rfl (Nat.le_of_ble_eq_true rfl) (fun x hl hC hR hN => ?_)
  subst hl
  refine J_aload_n hC dX11_pass_0 0 rfl rfl ?_
  refine J_iload_n hC dX11_pass_1 1 rfl rfl ?_
  refine J_iconst (v := 1) hC dX11_pass_2 rfl ?_
  refine J_sipush (v := 200) hC dX11_pass_3 (by decide +kernel) ?_
  refine J_callVi hC dX11_pass_6 wl_X11_149 yi_X11_noNumber (c_X11_noNumber _ G m M v 1 200) rfl rfl 0 11 rfl rfl ⟨Nat.le_of_ble_eq_true rfl, Nat.le_of_ble_eq_true rfl⟩ (Nat.le_of_ble_eq_true rfl) (Nat.le_of_ble_eq_true rfl) (Nat.le_of_ble_eq_true rfl) (fun r u h_6 => ?_)
  rcases h_6 with ⟨c_6, rfl, rfl⟩ | ⟨c_6, rfl, rfl⟩
  · refine J_if_eq (tgt := 14) hC dX11_pass_9 (by decide) (fun _ => ?_) (fun c => absurd (by decide) c)
    obtain ⟨ev, hlv, hv⟩ := rng_eq (a := 1) (b := 200) (by omega) (by omega) c_6
    refine J_lvq (lv' := [(0, .ref (m 0)), (1, .int (nI (cl v)))]) (by rw [← ev]; first | done | rfl) ?_
    refine J_aload_n hC dX11_pass_14 0 rfl rfl ?_
    refine J_callVv hC dX11_pass_15 wl_X11_275 yi_X11_remember (c_X11_remember _ G m (us M 8 2 0) un u0 (hun) (by omega) (hu0) (by omega)) rfl rfl 0 11 rfl rfl ⟨Nat.le_of_ble_eq_true rfl, Nat.le_of_ble_eq_true rfl⟩ (Nat.le_of_ble_eq_true rfl) (Nat.le_of_ble_eq_true rfl) (Nat.le_of_ble_eq_true rfl) (fun _ _ => ?_)
    refine J_aload_n hC dX11_pass_18 0 rfl rfl ?_
    refine J_get (v := .ref (m 1)) hC wu_X11 rfl dX11_pass_19 0 0 (by decide) wf_X11_7 rfl rfl ?_
    refine J_iload_n hC dX11_pass_22 1 rfl rfl ?_
    refine J_callSi hC dX11_pass_23 wl_X11_242 wi_X11 yi_X11_passMany (mdl0_i (c_X11_passMany _ G (m 1) (M 0) bc vc fc mc (cl v) (hbc) (by omega) (hvc) (by omega) (hfc) (by omega) (hmc) (by omega) (by omega) (hmI))) rfl rfl ⟨Nat.le_of_ble_eq_true rfl, Nat.le_of_ble_eq_true rfl⟩ (Nat.le_of_ble_eq_true rfl) (Nat.le_of_ble_eq_true rfl) (Nat.le_of_ble_eq_true rfl) (fun r u h_23 => ?_)
    subst h_23
    refine J_iret hC hR dX11_pass_26 rfl (ur (us (us (ur (us M 8 2 0) 3 (va_cpy (M 0) (M 3) 0 (242 * ((u0 + un) % 8)) 242)) 8 1 (nI (if un = 8 then (u0 + 1) % 8 else u0))) 8 0 (nI (min (un + 1) 8))) 0 (m_days (cl v) (M 0))) ?_ ?_ (by decide) (by decide)
    · exact Or.inl ⟨c_6, rfl, rfl⟩
    · rfl
  · refine J_if_eq (tgt := 14) hC dX11_pass_9 (by decide) (fun c => absurd c (by decide)) (fun _ => ?_)
    refine J_iconst (v := 0) hC dX11_pass_12 rfl ?_
    refine J_iret hC hR dX11_pass_13 rfl (us M 8 2 1) ?_ ?_ (by decide) (by decide)
    · exact Or.inr (⟨c_6, rfl, rfl⟩)
    · rfl

set_option maxRecDepth 100000 in
set_option maxHeartbeats 4000000 in
theorem c_X11_coinsAfter (l : Launch) (G : gT) (m : Nat → Nat) (M : CT) (bc : Nat) (vc : Nat) (fc : Nat) (mc : Nat) (d : Int32) (hbc : M 0 8 = nI bc) (bbc : bc ≤ 30) (hvc : M 0 6 = nI vc) (bvc : vc ≤ 6) (hfc : M 0 7 = nI fc) (bfc : fc ≤ 6) (hmc : M 0 9 = nI mc) (bmc : mc ≤ 10) (hmI : mI (M 0) bc vc fc mc) : MI l yX11_coinsAfter cX11_coinsAfter 2 (some .int) { frames := 5, cells := 0, slots := 0, locals := 114 } [.ref (m 0), .int d] G (mdW G m M) (fun r (u : CT) => ((¬ d < 0 ∧ ¬ 200 < d) ∧ m_days (cl d) (M 0) 4 = r ∧ (ur (us M 8 2 0) 2 (m_days (cl d) (M 0))) = u) ∨ ((¬ (¬ d < 0 ∧ ¬ 200 < d)) ∧ 0 = r ∧ (us M 8 2 1) = u)) (fun u => mdW G m u) := by
  refine jm_i (own := RX11) (by decide) rfl (Nat.le_of_ble_eq_true rfl) (fun x hl hC hR hN => ?_)
  subst hl
  refine J_aload_n hC dX11_coinsAfter_0 0 rfl rfl ?_
  refine J_iload_n hC dX11_coinsAfter_1 1 rfl rfl ?_
  refine J_iconst (v := 0) hC dX11_coinsAfter_2 rfl ?_
  refine J_sipush (v := 200) hC dX11_coinsAfter_3 (by decide +kernel) ?_
  refine J_callVi hC dX11_coinsAfter_6 wl_X11_149 yi_X11_noNumber (c_X11_noNumber _ G m M d 0 200) rfl rfl 0 11 rfl rfl ⟨Nat.le_of_ble_eq_true rfl, Nat.le_of_ble_eq_true rfl⟩ (Nat.le_of_ble_eq_true rfl) (Nat.le_of_ble_eq_true rfl) (Nat.le_of_ble_eq_true rfl) (fun r u h_6 => ?_)
  rcases h_6 with ⟨c_6, rfl, rfl⟩ | ⟨c_6, rfl, rfl⟩
  · refine J_if_eq (tgt := 14) hC dX11_coinsAfter_9 (by decide) (fun _ => ?_) (fun c => absurd (by decide) c)
    obtain ⟨ed, hld, hd⟩ := rng_eq (a := 0) (b := 200) (by omega) (by omega) c_6
    refine J_lvq (lv' := [(0, .ref (m 0)), (1, .int (nI (cl d)))]) (by rw [← ed]; first | done | rfl) ?_
    refine J_aload_n hC dX11_coinsAfter_14 0 rfl rfl ?_
    refine J_get (v := .ref (m 1)) hC wu_X11 rfl dX11_coinsAfter_15 0 0 (by decide) wf_X11_7 rfl rfl ?_
    refine J_iconst (v := 0) hC dX11_coinsAfter_18 rfl ?_
    refine J_aload_n hC dX11_coinsAfter_19 0 rfl rfl ?_
    refine J_get (v := .ref (m 3)) hC wu_X11 rfl dX11_coinsAfter_20 0 2 (by decide) wf_X11_16 rfl rfl ?_
    refine J_iconst (v := 0) hC dX11_coinsAfter_23 rfl ?_
    refine J_callSv hC dX11_coinsAfter_24 wl_X11_52 wi_X11 yi_X11_copyRow (c_X11_copyRow_02 _ G m (us M 8 2 0) 0 0 (by omega) (by omega)) rfl rfl ⟨Nat.le_of_ble_eq_true rfl, Nat.le_of_ble_eq_true rfl⟩ (Nat.le_of_ble_eq_true rfl) (Nat.le_of_ble_eq_true rfl) (Nat.le_of_ble_eq_true rfl) (fun _ _ => ?_)
    refine J_congw (q := 3) (g := (M 0)) (ws' := mdW G m (ur (us M 8 2 0) 2 (M 0))) rfl (fun i hi => (pk_cpy_in (Nat.zero_le _) (by omega)).trans (congrArg (M 0) (by omega))) rfl ?_
    refine J_aload_n hC dX11_coinsAfter_27 0 rfl rfl ?_
    refine J_get (v := .ref (m 3)) hC wu_X11 rfl dX11_coinsAfter_28 0 2 (by decide) wf_X11_16 rfl rfl ?_
    refine J_iload_n hC dX11_coinsAfter_31 1 rfl rfl ?_
    refine J_callSi hC dX11_coinsAfter_32 wl_X11_242 wi_X11 yi_X11_passMany (mdl2_i (c_X11_passMany _ G (m 3) (M 0) bc vc fc mc (cl d) (hbc) (by omega) (hvc) (by omega) (hfc) (by omega) (hmc) (by omega) (by omega) (hmI))) rfl rfl ⟨Nat.le_of_ble_eq_true rfl, Nat.le_of_ble_eq_true rfl⟩ (Nat.le_of_ble_eq_true rfl) (Nat.le_of_ble_eq_true rfl) (Nat.le_of_ble_eq_true rfl) (fun r u h_32 => ?_)
    subst h_32
    refine J_if_ge (tgt := 42) hC dX11_coinsAfter_35 (by decide) (fun (c_35 : 0 ≤ (m_days (cl d) (M 0) 11 - (M 0) 11)) => ?_) (fun (c_35 : ¬ 0 ≤ (m_days (cl d) (M 0) 11 - (M 0) 11)) => ?_)
    · refine J_aload_n hC dX11_coinsAfter_42 0 rfl rfl ?_
      refine J_get (v := .ref (m 3)) hC wu_X11 rfl dX11_coinsAfter_43 0 2 (by decide) wf_X11_16 rfl rfl ?_
      refine J_iconst (v := 4) hC dX11_coinsAfter_46 rfl ?_
      refine J_iald (i := 4) (v := (m_days (cl d) (M 0)) 4) hC dX11_coinsAfter_47 3 rfl (by omega) (by decide) rfl ?_
      refine J_iret hC hR dX11_coinsAfter_48 rfl (ur (ur (us M 8 2 0) 2 (M 0)) 2 (m_days (cl d) (M 0))) ?_ ?_ (by decide) (by decide)
      · exact Or.inl ⟨c_6, rfl, (ur_ur _ _ _ _).symm⟩
      · rfl
    · exact absurd (m_days_ge hmI _) c_35
  · refine J_if_eq (tgt := 14) hC dX11_coinsAfter_9 (by decide) (fun c => absurd c (by decide)) (fun _ => ?_)
    refine J_iconst (v := 0) hC dX11_coinsAfter_12 rfl ?_
    refine J_iret hC hR dX11_coinsAfter_13 rfl (us M 8 2 1) ?_ ?_ (by decide) (by decide)
    · exact Or.inr (⟨c_6, rfl, rfl⟩)
    · rfl

set_option maxRecDepth 100000 in
set_option maxHeartbeats 4000000 in
theorem c_X11_trustAfter (l : Launch) (G : gT) (m : Nat → Nat) (M : CT) (bc : Nat) (vc : Nat) (fc : Nat) (mc : Nat) (v : Int32) (d : Int32) (hbc : M 0 8 = nI bc) (bbc : bc ≤ 30) (hvc : M 0 6 = nI vc) (bvc : vc ≤ 6) (hfc : M 0 7 = nI fc) (bfc : fc ≤ 6) (hmc : M 0 9 = nI mc) (bmc : mc ≤ 10) (hmI : mI (M 0) bc vc fc mc) : MI l yX11_trustAfter cX11_trustAfter 3 (some .int) { frames := 5, cells := 0, slots := 0, locals := 114 } [.ref (m 0), .int v, .int d] G (mdW G m M) (fun r (u : CT) => ((inr v vc ∧ (¬ d < 0 ∧ ¬ 200 < d)) ∧ m_days (cl d) (M 0) (26 + 3 * cl v) = r ∧ (ur (us M 8 2 0) 2 (m_days (cl d) (M 0))) = u) ∨ ((¬ inr v vc) ∧ 0 = r ∧ (us M 8 2 1) = u) ∨ ((inr v vc ∧ ¬ (¬ d < 0 ∧ ¬ 200 < d)) ∧ 0 = r ∧ (us M 8 2 2) = u)) (fun u => mdW G m u) := by
  refine jm_i (own := RX11) (by decide) rfl (Nat.le_of_ble_eq_true rfl) (fun x hl hC hR hN => ?_)
  subst hl
  refine J_aload_n hC dX11_trustAfter_0 0 rfl rfl ?_
  refine J_iload_n hC dX11_trustAfter_1 1 rfl rfl ?_
  refine J_callVi hC dX11_trustAfter_2 wl_X11_284 yi_X11_noVillage (c_X11_noVillage _ G m M vc v (hvc) (by omega)) rfl rfl 0 11 rfl rfl ⟨Nat.le_of_ble_eq_true rfl, Nat.le_of_ble_eq_true rfl⟩ (Nat.le_of_ble_eq_true rfl) (Nat.le_of_ble_eq_true rfl) (Nat.le_of_ble_eq_true rfl) (fun r u h_2 => ?_)
  rcases h_2 with ⟨c_2, rfl, rfl⟩ | ⟨c_2, rfl, rfl⟩
  · refine J_if_ne (tgt := 20) hC dX11_trustAfter_5 (by decide) (fun c => absurd (by decide) c) (fun _ => ?_)
    obtain ⟨ev, hv⟩ := inr_eq c_2 (by omega)
    refine J_lvq (lv' := [(0, .ref (m 0)), (1, .int (nI (cl v))), (2, .int d)]) (by rw [← ev]; first | done | rfl) ?_
    refine J_aload_n hC dX11_trustAfter_8 0 rfl rfl ?_
    refine J_iload_n hC dX11_trustAfter_9 2 rfl rfl ?_
    refine J_iconst (v := 0) hC dX11_trustAfter_10 rfl ?_
    refine J_sipush (v := 200) hC dX11_trustAfter_11 (by decide +kernel) ?_
    refine J_callVi hC dX11_trustAfter_14 wl_X11_303 yi_X11_out (c_X11_out _ G m (us M 8 2 0) d 0 200 (by first | assumption | rfl)) rfl rfl 0 11 rfl rfl ⟨Nat.le_of_ble_eq_true rfl, Nat.le_of_ble_eq_true rfl⟩ (Nat.le_of_ble_eq_true rfl) (Nat.le_of_ble_eq_true rfl) (Nat.le_of_ble_eq_true rfl) (fun r u h_14 => ?_)
    rcases h_14 with ⟨c_14, rfl, rfl⟩ | ⟨c_14, rfl, rfl⟩
    · refine J_if_eq (tgt := 22) hC dX11_trustAfter_17 (by decide) (fun _ => ?_) (fun c => absurd (by decide) c)
      obtain ⟨ed, hld, hd⟩ := rng_eq (a := 0) (b := 200) (by omega) (by omega) c_14
      refine J_lvq (lv' := [(0, .ref (m 0)), (1, .int (nI (cl v))), (2, .int (nI (cl d)))]) (by rw [← ed]; first | done | rfl) ?_
      refine J_aload_n hC dX11_trustAfter_22 0 rfl rfl ?_
      refine J_get (v := .ref (m 1)) hC wu_X11 rfl dX11_trustAfter_23 0 0 (by decide) wf_X11_7 rfl rfl ?_
      refine J_iconst (v := 0) hC dX11_trustAfter_26 rfl ?_
      refine J_aload_n hC dX11_trustAfter_27 0 rfl rfl ?_
      refine J_get (v := .ref (m 3)) hC wu_X11 rfl dX11_trustAfter_28 0 2 (by decide) wf_X11_16 rfl rfl ?_
      refine J_iconst (v := 0) hC dX11_trustAfter_31 rfl ?_
      refine J_callSv hC dX11_trustAfter_32 wl_X11_52 wi_X11 yi_X11_copyRow (c_X11_copyRow_02 _ G m (us M 8 2 0) 0 0 (by omega) (by omega)) rfl rfl ⟨Nat.le_of_ble_eq_true rfl, Nat.le_of_ble_eq_true rfl⟩ (Nat.le_of_ble_eq_true rfl) (Nat.le_of_ble_eq_true rfl) (Nat.le_of_ble_eq_true rfl) (fun _ _ => ?_)
      refine J_congw (q := 3) (g := (M 0)) (ws' := mdW G m (ur (us M 8 2 0) 2 (M 0))) rfl (fun i hi => (pk_cpy_in (Nat.zero_le _) (by omega)).trans (congrArg (M 0) (by omega))) rfl ?_
      refine J_aload_n hC dX11_trustAfter_35 0 rfl rfl ?_
      refine J_get (v := .ref (m 3)) hC wu_X11 rfl dX11_trustAfter_36 0 2 (by decide) wf_X11_16 rfl rfl ?_
      refine J_iload_n hC dX11_trustAfter_39 2 rfl rfl ?_
      refine J_callSi hC dX11_trustAfter_40 wl_X11_242 wi_X11 yi_X11_passMany (mdl2_i (c_X11_passMany _ G (m 3) (M 0) bc vc fc mc (cl d) (hbc) (by omega) (hvc) (by omega) (hfc) (by omega) (hmc) (by omega) (by omega) (hmI))) rfl rfl ⟨Nat.le_of_ble_eq_true rfl, Nat.le_of_ble_eq_true rfl⟩ (Nat.le_of_ble_eq_true rfl) (Nat.le_of_ble_eq_true rfl) (Nat.le_of_ble_eq_true rfl) (fun r u h_40 => ?_)
      subst h_40
      refine J_if_ge (tgt := 50) hC dX11_trustAfter_43 (by decide) (fun (c_43 : 0 ≤ (m_days (cl d) (M 0) 11 - (M 0) 11)) => ?_) (fun (c_43 : ¬ 0 ≤ (m_days (cl d) (M 0) 11 - (M 0) 11)) => ?_)
      · refine J_aload_n hC dX11_trustAfter_50 0 rfl rfl ?_
        refine J_get (v := .ref (m 3)) hC wu_X11 rfl dX11_trustAfter_51 0 2 (by decide) wf_X11_16 rfl rfl ?_
        refine J_iload_n hC dX11_trustAfter_54 1 rfl rfl ?_
        refine J_callSi hC dX11_trustAfter_55 wl_X11_81 wi_X11 yi_X11_ofVillage (c_X11_ofVillage _ G (mdW G m (ur (ur (us M 8 2 0) 2 (M 0)) 2 (m_days (cl d) (M 0)))) (cl v)) rfl rfl ⟨Nat.le_of_ble_eq_true rfl, Nat.le_of_ble_eq_true rfl⟩ (Nat.le_of_ble_eq_true rfl) (Nat.le_of_ble_eq_true rfl) (Nat.le_of_ble_eq_true rfl) (fun r u h_55 => ?_)
        subst h_55
        refine J_iconst (v := 2) hC dX11_trustAfter_58 rfl ?_
        refine J_iadd (v := nI (26 + 3 * cl v)) hC dX11_trustAfter_59 ((nI_add (24 + 3 * (cl v)) 2).trans (congrArg nI (by omega))) ?_
        refine J_iald (i := 26 + 3 * cl v) (v := (m_days (cl d) (M 0)) (26 + 3 * cl v)) hC dX11_trustAfter_60 3 rfl (by omega) (by decide) rfl ?_
        refine J_iret hC hR dX11_trustAfter_61 rfl (ur (ur (us M 8 2 0) 2 (M 0)) 2 (m_days (cl d) (M 0))) ?_ ?_ (by decide) (by decide)
        · exact Or.inl ⟨⟨c_2, c_14⟩, rfl, (ur_ur _ _ _ _).symm⟩
        · rfl
      · exact absurd (m_days_ge hmI _) c_43
    · rw [us_us]
      refine J_if_eq (tgt := 22) hC dX11_trustAfter_17 (by decide) (fun c => absurd c (by decide)) (fun _ => ?_)
      refine J_iconst (v := 0) hC dX11_trustAfter_20 rfl ?_
      refine J_iret hC hR dX11_trustAfter_21 rfl (us M 8 2 2) ?_ ?_ (by decide) (by decide)
      · exact Or.inr (Or.inr (⟨⟨c_2, c_14⟩, rfl, rfl⟩))
      · rfl
  · refine J_if_ne (tgt := 20) hC dX11_trustAfter_5 (by decide) (fun _ => ?_) (fun c => absurd c (by decide))
    refine J_iconst (v := 0) hC dX11_trustAfter_20 rfl ?_
    refine J_iret hC hR dX11_trustAfter_21 rfl (us M 8 2 1) ?_ ?_ (by decide) (by decide)
    · exact Or.inr (Or.inl ⟨c_2, rfl, rfl⟩)
    · rfl

set_option maxRecDepth 100000 in
set_option maxHeartbeats 4000000 in
theorem c_X11_save (l : Launch) (G : gT) (m : Nat → Nat) (M : CT) (v : Int32) : MI l yX11_save cX11_save 2 (some .int) { frames := 2, cells := 0, slots := 0, locals := 45 } [.ref (m 0), .int v] G (mdW G m M) (fun r (u : CT) => ((¬ v < 0 ∧ ¬ 1 < v) ∧ M 0 5 = r ∧ (us (ur (us M 8 2 0) 4 (va_cpy (M 0) (M 4) 0 (242 * cl v) 242)) 5 (cl v) (vp_nar .boolean 1)) = u) ∨ ((¬ (¬ v < 0 ∧ ¬ 1 < v)) ∧ 0 = r ∧ (us M 8 2 1) = u)) (fun u => mdW G m u) := by
  refine jm_i (own := RX11) (by decide) rfl (Nat.le_of_ble_eq_true rfl) (fun x hl hC hR hN => ?_)
  subst hl
  refine J_aload_n hC dX11_save_0 0 rfl rfl ?_
  refine J_iload_n hC dX11_save_1 1 rfl rfl ?_
  refine J_iconst (v := 0) hC dX11_save_2 rfl ?_
  refine J_iconst (v := 1) hC dX11_save_3 rfl ?_
  refine J_callVi hC dX11_save_4 wl_X11_149 yi_X11_noNumber (c_X11_noNumber _ G m M v 0 1) rfl rfl 0 11 rfl rfl ⟨Nat.le_of_ble_eq_true rfl, Nat.le_of_ble_eq_true rfl⟩ (Nat.le_of_ble_eq_true rfl) (Nat.le_of_ble_eq_true rfl) (Nat.le_of_ble_eq_true rfl) (fun r u h_4 => ?_)
  rcases h_4 with ⟨c_4, rfl, rfl⟩ | ⟨c_4, rfl, rfl⟩
  · refine J_if_eq (tgt := 12) hC dX11_save_7 (by decide) (fun _ => ?_) (fun c => absurd (by decide) c)
    obtain ⟨ev, hlv, hv⟩ := rng_eq (a := 0) (b := 1) (by omega) (by omega) c_4
    refine J_lvq (lv' := [(0, .ref (m 0)), (1, .int (nI (cl v)))]) (by rw [← ev]; first | done | rfl) ?_
    refine J_aload_n hC dX11_save_12 0 rfl rfl ?_
    refine J_get (v := .ref (m 1)) hC wu_X11 rfl dX11_save_13 0 0 (by decide) wf_X11_7 rfl rfl ?_
    refine J_iconst (v := 0) hC dX11_save_16 rfl ?_
    refine J_aload_n hC dX11_save_17 0 rfl rfl ?_
    refine J_get (v := .ref (m 5)) hC wu_X11 rfl dX11_save_18 0 4 (by decide) wf_X11_22 rfl rfl ?_
    refine J_sipush (v := 242) hC dX11_save_21 (by decide +kernel) ?_
    refine J_iload_n hC dX11_save_24 1 rfl rfl ?_
    refine J_imul (v := nI (242 * cl v)) hC dX11_save_25 ((pk_mul 242 (cl v)).trans (congrArg nI (by omega))) ?_
    refine J_callSv hC dX11_save_26 wl_X11_52 wi_X11 yi_X11_copyRow (c_X11_copyRow_04 _ G m (us M 8 2 0) 0 (242 * cl v) (by omega) (by omega)) rfl rfl ⟨Nat.le_of_ble_eq_true rfl, Nat.le_of_ble_eq_true rfl⟩ (Nat.le_of_ble_eq_true rfl) (Nat.le_of_ble_eq_true rfl) (Nat.le_of_ble_eq_true rfl) (fun _ _ => ?_)
    refine J_aload_n hC dX11_save_29 0 rfl rfl ?_
    refine J_get (v := .ref (m 6)) hC wu_X11 rfl dX11_save_30 0 5 (by decide) wf_X11_25 rfl rfl ?_
    refine J_iload_n hC dX11_save_33 1 rfl rfl ?_
    refine J_iconst (v := 1) hC dX11_save_34 rfl ?_
    refine J_zast (i := cl v) (ws' := mdW G m (us (ur (us M 8 2 0) 4 (va_cpy (M 0) (M 4) 0 (242 * cl v) 242)) 5 (cl v) (vp_nar .boolean 1))) hC dX11_save_35 6 rfl (by omega) (by decide) rfl ?_
    refine J_aload_n hC dX11_save_36 0 rfl rfl ?_
    refine J_get (v := .ref (m 1)) hC wu_X11 rfl dX11_save_37 0 0 (by decide) wf_X11_7 rfl rfl ?_
    refine J_iconst (v := 5) hC dX11_save_40 rfl ?_
    refine J_iald (i := 5) (v := M 0 5) hC dX11_save_41 1 rfl (by omega) (by decide) rfl ?_
    refine J_iret hC hR dX11_save_42 rfl (us (ur (us M 8 2 0) 4 (va_cpy (M 0) (M 4) 0 (242 * cl v) 242)) 5 (cl v) (vp_nar .boolean 1)) ?_ ?_ (by decide) (by decide)
    · exact Or.inl ⟨c_4, rfl, rfl⟩
    · rfl
  · refine J_if_eq (tgt := 12) hC dX11_save_7 (by decide) (fun c => absurd c (by decide)) (fun _ => ?_)
    refine J_iconst (v := 0) hC dX11_save_10 rfl ?_
    refine J_iret hC hR dX11_save_11 rfl (us M 8 2 1) ?_ ?_ (by decide) (by decide)
    · exact Or.inr (⟨c_4, rfl, rfl⟩)
    · rfl

set_option maxRecDepth 100000 in
set_option maxHeartbeats 4000000 in
theorem c_X11_restore (l : Launch) (G : gT) (m : Nat → Nat) (M : CT) (un : Nat) (u0 : Nat) (v : Int32) (hun : M 8 0 = nI un) (bun : un ≤ 8) (hu0 : M 8 1 = nI u0) (bu0 : u0 ≤ 7) : MI l yX11_restore cX11_restore 2 (some .int) { frames := 2, cells := 0, slots := 0, locals := 45 } [.ref (m 0), .int v] G (mdW G m M) (fun r (u : CT) => (((¬ v < 0 ∧ ¬ 1 < v) ∧ ¬ M 5 (cl v) = 0) ∧ M 4 (242 * cl v + 5) = r ∧ (ur (us (us (ur (us M 8 2 0) 3 (va_cpy (M 0) (M 3) 0 (242 * ((u0 + un) % 8)) 242)) 8 1 (nI (if un = 8 then (u0 + 1) % 8 else u0))) 8 0 (nI (min (un + 1) 8))) 0 (fun j => M 4 (242 * cl v + j))) = u) ∨ ((¬ (¬ v < 0 ∧ ¬ 1 < v)) ∧ 0 = r ∧ (us M 8 2 1) = u) ∨ (((¬ v < 0 ∧ ¬ 1 < v) ∧ M 5 (cl v) = 0) ∧ 0 = r ∧ (us M 8 2 2) = u)) (fun u => mdW G m u) := by
  refine jm_i (own := RX11) (by decide) rfl (Nat.le_of_ble_eq_true rfl) (fun x hl hC hR hN => ?_)
  subst hl
  refine J_aload_n hC dX11_restore_0 0 rfl rfl ?_
  refine J_iload_n hC dX11_restore_1 1 rfl rfl ?_
  refine J_iconst (v := 0) hC dX11_restore_2 rfl ?_
  refine J_iconst (v := 1) hC dX11_restore_3 rfl ?_
  refine J_callVi hC dX11_restore_4 wl_X11_149 yi_X11_noNumber (c_X11_noNumber _ G m M v 0 1) rfl rfl 0 11 rfl rfl ⟨Nat.le_of_ble_eq_true rfl, Nat.le_of_ble_eq_true rfl⟩ (Nat.le_of_ble_eq_true rfl) (Nat.le_of_ble_eq_true rfl) (Nat.le_of_ble_eq_true rfl) (fun r u h_4 => ?_)
  rcases h_4 with ⟨c_4, rfl, rfl⟩ | ⟨c_4, rfl, rfl⟩
  · refine J_if_ne (tgt := 32) hC dX11_restore_7 (by decide) (fun c => absurd (by decide) c) (fun _ => ?_)
    obtain ⟨ev, hlv, hv⟩ := rng_eq (a := 0) (b := 1) (by omega) (by omega) c_4
    refine J_lvq (lv' := [(0, .ref (m 0)), (1, .int (nI (cl v)))]) (by rw [← ev]; first | done | rfl) ?_
    refine J_aload_n hC dX11_restore_10 0 rfl rfl ?_
    refine J_aload_n hC dX11_restore_11 0 rfl rfl ?_
    refine J_get (v := .ref (m 6)) hC wu_X11 rfl dX11_restore_12 0 5 (by decide) wf_X11_25 rfl rfl ?_
    refine J_iload_n hC dX11_restore_15 1 rfl rfl ?_
    refine J_zald (i := cl v) (v := M 5 (cl v)) hC dX11_restore_16 6 rfl (by omega) (by decide) rfl ?_
    refine J_if_ne (tgt := 24) hC dX11_restore_17 (by decide) (fun (c_17 : ¬ (M 5 (cl v)) = 0) => ?_) (fun (c_17 : (M 5 (cl v)) = 0) => ?_)
    · refine J_iconst (v := 0) hC dX11_restore_24 rfl ?_
      refine J_iconst (v := 2) hC dX11_restore_25 rfl ?_
      refine J_callVi hC dX11_restore_26 wl_X11_141 yi_X11_refuses (c_X11_refuses_0 _ G m (us M 8 2 0) 2 (by first | assumption | rfl)) rfl rfl 0 11 rfl rfl ⟨Nat.le_of_ble_eq_true rfl, Nat.le_of_ble_eq_true rfl⟩ (Nat.le_of_ble_eq_true rfl) (Nat.le_of_ble_eq_true rfl) (Nat.le_of_ble_eq_true rfl) (fun r u h_26 => ?_)
      obtain ⟨c_26, rfl, rfl⟩ := h_26
      refine J_if_eq (tgt := 34) hC dX11_restore_29 (by decide) (fun _ => ?_) (fun c => absurd (by decide) c)
      refine J_aload_n hC dX11_restore_34 0 rfl rfl ?_
      refine J_callVv hC dX11_restore_35 wl_X11_275 yi_X11_remember (c_X11_remember _ G m (us M 8 2 0) un u0 (hun) (by omega) (hu0) (by omega)) rfl rfl 0 11 rfl rfl ⟨Nat.le_of_ble_eq_true rfl, Nat.le_of_ble_eq_true rfl⟩ (Nat.le_of_ble_eq_true rfl) (Nat.le_of_ble_eq_true rfl) (Nat.le_of_ble_eq_true rfl) (fun _ _ => ?_)
      refine J_aload_n hC dX11_restore_38 0 rfl rfl ?_
      refine J_get (v := .ref (m 5)) hC wu_X11 rfl dX11_restore_39 0 4 (by decide) wf_X11_22 rfl rfl ?_
      refine J_sipush (v := 242) hC dX11_restore_42 (by decide +kernel) ?_
      refine J_iload_n hC dX11_restore_45 1 rfl rfl ?_
      refine J_imul (v := nI (242 * cl v)) hC dX11_restore_46 ((pk_mul 242 (cl v)).trans (congrArg nI (by omega))) ?_
      refine J_aload_n hC dX11_restore_47 0 rfl rfl ?_
      refine J_get (v := .ref (m 1)) hC wu_X11 rfl dX11_restore_48 0 0 (by decide) wf_X11_7 rfl rfl ?_
      refine J_iconst (v := 0) hC dX11_restore_51 rfl ?_
      refine J_callSv hC dX11_restore_52 wl_X11_52 wi_X11 yi_X11_copyRow (c_X11_copyRow_40 _ G m (us (us (ur (us M 8 2 0) 3 (va_cpy (M 0) (M 3) 0 (242 * ((u0 + un) % 8)) 242)) 8 1 (nI (if un = 8 then (u0 + 1) % 8 else u0))) 8 0 (nI (min (un + 1) 8))) (242 * cl v) 0 (by omega) (by omega)) rfl rfl ⟨Nat.le_of_ble_eq_true rfl, Nat.le_of_ble_eq_true rfl⟩ (Nat.le_of_ble_eq_true rfl) (Nat.le_of_ble_eq_true rfl) (Nat.le_of_ble_eq_true rfl) (fun _ _ => ?_)
      refine J_congw (q := 1) (g := (fun j => (M 4) ((242 * cl v) + j))) (ws' := mdW G m (ur (us (us (ur (us M 8 2 0) 3 (va_cpy (M 0) (M 3) 0 (242 * ((u0 + un) % 8)) 242)) 8 1 (nI (if un = 8 then (u0 + 1) % 8 else u0))) 8 0 (nI (min (un + 1) 8))) 0 (fun j => (M 4) ((242 * cl v) + j)))) rfl (fun i hi => (pk_cpy_in (Nat.zero_le _) (by omega)).trans rfl) rfl ?_
      refine J_aload_n hC dX11_restore_55 0 rfl rfl ?_
      refine J_get (v := .ref (m 1)) hC wu_X11 rfl dX11_restore_56 0 0 (by decide) wf_X11_7 rfl rfl ?_
      refine J_iconst (v := 5) hC dX11_restore_59 rfl ?_
      refine J_iald (i := 5) (v := (fun j => (M 4) ((242 * cl v) + j)) 5) hC dX11_restore_60 1 rfl (by omega) (by decide) rfl ?_
      refine J_iret hC hR dX11_restore_61 rfl (ur (us (us (ur (us M 8 2 0) 3 (va_cpy (M 0) (M 3) 0 (242 * ((u0 + un) % 8)) 242)) 8 1 (nI (if un = 8 then (u0 + 1) % 8 else u0))) 8 0 (nI (min (un + 1) 8))) 0 (fun j => (M 4) ((242 * cl v) + j))) ?_ ?_ (by decide) (by decide)
      · exact Or.inl ⟨⟨c_4, c_17⟩, rfl, rfl⟩
      · rfl
    · refine J_iconst (v := 1) hC dX11_restore_20 rfl ?_
      refine J_goto (tgt := 25) hC dX11_restore_21 (by decide) ?_
      refine J_iconst (v := 2) hC dX11_restore_25 rfl ?_
      refine J_callVi hC dX11_restore_26 wl_X11_141 yi_X11_refuses (c_X11_refuses_1 _ G m (us M 8 2 0) 2 (by first | assumption | rfl) (by decide)) rfl rfl 0 11 rfl rfl ⟨Nat.le_of_ble_eq_true rfl, Nat.le_of_ble_eq_true rfl⟩ (Nat.le_of_ble_eq_true rfl) (Nat.le_of_ble_eq_true rfl) (Nat.le_of_ble_eq_true rfl) (fun r u h_26 => ?_)
      obtain ⟨c_26, rfl, rfl⟩ := h_26
      rw [us_us]
      refine J_if_eq (tgt := 34) hC dX11_restore_29 (by decide) (fun c => absurd c (by decide)) (fun _ => ?_)
      refine J_iconst (v := 0) hC dX11_restore_32 rfl ?_
      refine J_iret hC hR dX11_restore_33 rfl (us M 8 2 2) ?_ ?_ (by decide) (by decide)
      · exact Or.inr (Or.inr (⟨⟨c_4, c_17⟩, rfl, rfl⟩))
      · rfl
  · refine J_if_ne (tgt := 32) hC dX11_restore_7 (by decide) (fun _ => ?_) (fun c => absurd c (by decide))
    refine J_iconst (v := 0) hC dX11_restore_32 rfl ?_
    refine J_iret hC hR dX11_restore_33 rfl (us M 8 2 1) ?_ ?_ (by decide) (by decide)
    · exact Or.inr (Or.inl ⟨c_4, rfl, rfl⟩)
    · rfl

theorem m_named_cases (g : RT) (a w : Nat) (nm : Int32) (n : Nat) : fnd (fun i => decide (g (a + w * i) = nm)) 0 n = -1 ∨ ∃ k, k < n ∧ fnd (fun i => decide (g (a + w * i) = nm)) 0 n = nI k := by
  rcases fnd_cases (fun i => decide (g (a + w * i) = nm)) n n 0 rfl with h | ⟨j, -, h2, h3, h4⟩
  · exact Or.inl h
  · exact Or.inr ⟨j, h2, h4⟩
def m_best (g : RT) (bc : Nat) : Nat := fo (fun i b => if g (75 + 5 * i) ≤ g (75 + 5 * b) then b else i) 1 (bc - 1) 0
abbrev q_let (x : Int32) : Prop := ¬ x < 97 ∧ ¬ 122 < x
def q_nmL (f : RT) (a n : Nat) : Nat → Nat → Int32 → Int32
  | _, 0, acc => acc
  | i, k + 1, acc => if i < n then (if q_let (f (a + i)) then q_nmL f a n (i + 1) k (acc * 27 + (f (a + i) - 96)) else -1) else q_nmL f a n (i + 1) k (acc * 27)
def q_nm (f : RT) (a n : Nat) : Int32 := if 1 ≤ n ∧ n ≤ 4 then q_nmL f a n 0 4 0 else -1
def m_vn (g : RT) (nm : Int32) (vc : Nat) : Int32 := fnd (fun i => decide (g (24 + 3 * i) = nm)) 0 vc
def m_fn (g : RT) (nm : Int32) (fc : Nat) : Int32 := fnd (fun i => decide (g (42 + 5 * i) = nm)) 0 fc
def m_findName (g f : RT) (il vc fc : Nat) : Int32 := if q_nm f 0 il = -1 then -1 else if m_vn g (q_nm f 0 il) vc = -1 then (if m_fn g (q_nm f 0 il) fc = -1 then -1 else 100 + m_fn g (q_nm f 0 il) fc) else m_vn g (q_nm f 0 il) vc
def m_told (g : RT) (k : Nat) : Int32 := 10 * g (73 + 5 * k) + g (72 + 5 * k)
def m_alike (g : RT) (k bc : Nat) : Int32 := fo (fun j s => if m_told g j = m_told g k then s + 1 else s) (k + 1) (bc - (k + 1)) 0
def m_errs (g : RT) (bc : Nat) : Int32 := fo (fun k s => (if m_find g (g (72 + 5 * k)) (g (73 + 5 * k)) bc = -1 then s + 1 else s) + m_alike g k bc) 0 bc 0
def m_per (g : RT) (f : Nat) : Nat := cl (g (44 + 5 * f))
theorem held_iff {g : RT} {f d p : Nat} (e : g (44 + 5 * f) = nI p) (h1 : 1 ≤ p) (h2 : p ≤ 12) (hd : d ≤ 2000000) (hf : f < 6) : m_isHeld g f (nI d) ↔ (d + f) % p = 0 := by
  have hm := Nat.mod_lt (d + f) (show 0 < p by omega)
  rw [m_isHeld, nI_add, e, imod_nat (by omega) (by omega) (by omega)]
  constructor
  · intro h
    have := congrArg Int32.toInt h
    rw [nI_toInt (by omega), show ((0 : Int32)).toInt = 0 from rfl] at this
    omega
  · intro h; rw [h]; rfl
theorem next_held {x p j : Nat} (hp : 1 ≤ p) (h1 : 1 ≤ j) (h2 : j ≤ p - x % p) : ((x + j) % p = 0 ↔ j = p - x % p) := by
  have hm := Nat.mod_lt x (show 0 < p by omega)
  rw [Nat.add_mod]
  rcases Nat.lt_or_ge j p with q | q
  · rw [Nat.mod_eq_of_lt q]
    rcases Nat.lt_or_ge (x % p + j) p with q2 | q2
    · rw [Nat.mod_eq_of_lt q2]; omega
    · rw [show x % p + j = p by omega, Nat.mod_self]; omega
  · have e : j = p := by omega
    have e2 : x % p = 0 := by omega
    rw [e2, e, Nat.mod_self, Nat.zero_mod]; simp

set_option maxRecDepth 100000 in
set_option maxHeartbeats 4000000 in
theorem c_X11_bestSeller (l : Launch) (G : gT) (m : Nat → Nat) (M : CT) (bc : Nat) (hbc : M 0 8 = nI bc) (bbc : bc ≤ 30) : MI l yX11_bestSeller cX11_bestSeller 3 (some .int) { frames := 2, cells := 0, slots := 0, locals := 41 } [.ref (m 0)] G (mdW G m M) (fun r (_ : Unit) => r = if bc = 0 then -1 else 10 * M 0 (73 + 5 * m_best (M 0) bc) + M 0 (72 + 5 * m_best (M 0) bc)) (fun _ => mdW G m (us M 8 2 0)) := by
  refine jm_i (own := RX11) (by decide) rfl (Nat.le_of_ble_eq_true rfl) (fun x hl hC hR hN => ?_)
  subst hl
  have key : ∀ fuel : Nat, (∀ (i : Nat) (k : Nat), (1 ≤ i ∧ i ≤ bc) → (k < bc) → (m_best (M 0) bc = fo (fun i b => if M 0 (75 + 5 * i) ≤ M 0 (75 + 5 * b) then b else i) i (bc - i) k) → bc - i < fuel → J x G (mdW G m (us M 8 2 0)) 0 0 [(0, .ref (m 0)), (1, .int (nI k)), (2, .int (nI i))] [] 9) := by
    intro fuel
    induction fuel with
    | zero => exact fun _ _ _ _ _ h => absurd h (Nat.not_lt_zero _)
    | succ fuel ih =>
      intro i k hi hk hI hmu
      refine J_iload_n hC dX11_bestSeller_9 2 rfl rfl ?_
      refine J_aload_n hC dX11_bestSeller_10 0 rfl rfl ?_
      refine J_get (v := .ref (m 1)) hC wu_X11 rfl dX11_bestSeller_11 0 0 (by decide) wf_X11_7 rfl rfl ?_
      refine J_bipush (v := 8) hC dX11_bestSeller_14 (by decide +kernel) ?_
      refine J_iald (i := 8) (v := M 0 8) hC dX11_bestSeller_16 1 rfl (by omega) (by decide) rfl ?_
      refine J_topi hbc ?_
      refine J_ic_geN (a := i) (b := bc) (tgt := 62) hC dX11_bestSeller_17 (by decide) (by omega) (by omega) (fun (c_17 : bc ≤ i) => ?_) (fun (c_17 : i < bc) => ?_)
      · refine J_iload_n hC dX11_bestSeller_62 1 rfl rfl ?_
        refine J_iconst (v := (-1)) hC dX11_bestSeller_63 rfl ?_
        refine J_ic_ne (tgt := 71) hC dX11_bestSeller_64 (by decide) (fun _ => ?_) (fun c => absurd c (nI_ne_m1 (by omega)))
        refine J_aload_n hC dX11_bestSeller_71 0 rfl rfl ?_
        refine J_iload_n hC dX11_bestSeller_72 1 rfl rfl ?_
        refine J_callVi hC dX11_bestSeller_73 wl_X11_297 yi_X11_told (c_X11_told _ G m (us M 8 2 0) k (by omega)) rfl rfl 0 11 rfl rfl ⟨Nat.le_of_ble_eq_true rfl, Nat.le_of_ble_eq_true rfl⟩ (Nat.le_of_ble_eq_true rfl) (Nat.le_of_ble_eq_true rfl) (Nat.le_of_ble_eq_true rfl) (fun r u h_73 => ?_)
        subst h_73
        refine J_iret hC hR dX11_bestSeller_76 rfl () ?_ ?_ (by decide) (by decide)
        · rw [if_neg (by omega), hI, fo_done c_17]
          rfl
        · rfl
      · refine J_iload_n hC dX11_bestSeller_20 1 rfl rfl ?_
        refine J_iconst (v := (-1)) hC dX11_bestSeller_21 rfl ?_
        refine J_ic_eq (tgt := 50) hC dX11_bestSeller_22 (by decide) (fun c => absurd c (nI_ne_m1 (by omega))) (fun _ => ?_)
        refine J_aload_n hC dX11_bestSeller_25 0 rfl rfl ?_
        refine J_get (v := .ref (m 1)) hC wu_X11 rfl dX11_bestSeller_26 0 0 (by decide) wf_X11_7 rfl rfl ?_
        refine J_iload_n hC dX11_bestSeller_29 2 rfl rfl ?_
        refine J_callSi hC dX11_bestSeller_30 wl_X11_69 wi_X11 yi_X11_ofForecast (c_X11_ofForecast _ G (mdW G m (us M 8 2 0)) i) rfl rfl ⟨Nat.le_of_ble_eq_true rfl, Nat.le_of_ble_eq_true rfl⟩ (Nat.le_of_ble_eq_true rfl) (Nat.le_of_ble_eq_true rfl) (Nat.le_of_ble_eq_true rfl) (fun r u h_30 => ?_)
        subst h_30
        refine J_iconst (v := 3) hC dX11_bestSeller_33 rfl ?_
        refine J_iadd (v := nI (75 + 5 * i)) hC dX11_bestSeller_34 ((nI_add (72 + 5 * i) 3).trans (congrArg nI (by omega))) ?_
        refine J_iald (i := 75 + 5 * i) (v := M 0 (75 + 5 * i)) hC dX11_bestSeller_35 1 rfl (by omega) (by decide) rfl ?_
        refine J_aload_n hC dX11_bestSeller_36 0 rfl rfl ?_
        refine J_get (v := .ref (m 1)) hC wu_X11 rfl dX11_bestSeller_37 0 0 (by decide) wf_X11_7 rfl rfl ?_
        refine J_iload_n hC dX11_bestSeller_40 1 rfl rfl ?_
        refine J_callSi hC dX11_bestSeller_41 wl_X11_69 wi_X11 yi_X11_ofForecast (c_X11_ofForecast _ G (mdW G m (us M 8 2 0)) k) rfl rfl ⟨Nat.le_of_ble_eq_true rfl, Nat.le_of_ble_eq_true rfl⟩ (Nat.le_of_ble_eq_true rfl) (Nat.le_of_ble_eq_true rfl) (Nat.le_of_ble_eq_true rfl) (fun r u h_41 => ?_)
        subst h_41
        refine J_iconst (v := 3) hC dX11_bestSeller_44 rfl ?_
        refine J_iadd (v := nI (75 + 5 * k)) hC dX11_bestSeller_45 ((nI_add (72 + 5 * k) 3).trans (congrArg nI (by omega))) ?_
        refine J_iald (i := 75 + 5 * k) (v := M 0 (75 + 5 * k)) hC dX11_bestSeller_46 1 rfl (by omega) (by decide) rfl ?_
        refine J_ic_le (tgt := 54) hC dX11_bestSeller_47 (by decide) (fun (c_47 : (M 0 (75 + 5 * i)) ≤ (M 0 (75 + 5 * k))) => ?_) (fun (c_47 : ¬ (M 0 (75 + 5 * i)) ≤ (M 0 (75 + 5 * k))) => ?_)
        · refine J_iload_n hC dX11_bestSeller_54 1 rfl rfl ?_
          refine J_istore_n hC [(1, .int (nI k)), (0, .ref (m 0)), (2, .int (nI i))] dX11_bestSeller_55 rfl (by decide) rfl ?_
          refine J_iinc hC [(2, .int (nI (i + 1))), (1, .int (nI k)), (0, .ref (m 0))] dX11_bestSeller_56 2 rfl (nI_inc _) (by decide) rfl ?_
          refine J_goto (tgt := 9) hC dX11_bestSeller_59 (by decide) ?_
          refine J_lv (lv' := [(0, .ref (m 0)), (1, .int (nI k)), (2, .int (nI (i + 1)))]) [2, 1, 0] rfl ?_
          exact ih (i + 1) k (by omega) (by omega) (hI.trans ((fo_step c_17).trans (congrArg _ (by rw [if_pos c_47])))) (by omega)
        · refine J_iload_n hC dX11_bestSeller_50 2 rfl rfl ?_
          refine J_goto (tgt := 55) hC dX11_bestSeller_51 (by decide) ?_
          refine J_istore_n hC [(1, .int (nI i)), (0, .ref (m 0)), (2, .int (nI i))] dX11_bestSeller_55 rfl (by decide) rfl ?_
          refine J_iinc hC [(2, .int (nI (i + 1))), (1, .int (nI i)), (0, .ref (m 0))] dX11_bestSeller_56 2 rfl (nI_inc _) (by decide) rfl ?_
          refine J_goto (tgt := 9) hC dX11_bestSeller_59 (by decide) ?_
          refine J_lv (lv' := [(0, .ref (m 0)), (1, .int (nI i)), (2, .int (nI (i + 1)))]) [2, 1, 0] rfl ?_
          exact ih (i + 1) i (by omega) (by omega) (hI.trans ((fo_step c_17).trans (congrArg _ (by rw [if_neg c_47])))) (by omega)
  refine J_aload_n hC dX11_bestSeller_0 0 rfl rfl ?_
  refine J_iconst (v := 0) hC dX11_bestSeller_1 rfl ?_
  refine J_put (ws' := mdW G m (us M 8 2 0)) hC wu_X11 rfl tyX11_ok nmX11 dX11_bestSeller_2 0 8 (by decide) wf_X11_66 rfl rfl (Nat.le_of_ble_eq_true rfl) rfl rfl rfl ?_
  refine J_iconst (v := (-1)) hC dX11_bestSeller_5 rfl ?_
  refine J_istore_n hC [(1, .int (-1)), (0, .ref (m 0))] dX11_bestSeller_6 rfl (by decide) rfl ?_
  refine J_iconst (v := 0) hC dX11_bestSeller_7 rfl ?_
  refine J_istore_n hC [(2, .int 0), (1, .int (-1)), (0, .ref (m 0))] dX11_bestSeller_8 rfl (by decide) rfl ?_
  refine J_iload_n hC dX11_bestSeller_9 0 rfl rfl ?_
  refine J_aload_n hC dX11_bestSeller_10 2 rfl rfl ?_
  refine J_get (v := .ref (m 1)) hC wu_X11 rfl dX11_bestSeller_11 0 0 (by decide) wf_X11_7 rfl rfl ?_
  refine J_bipush (v := 8) hC dX11_bestSeller_14 (by decide +kernel) ?_
  refine J_iald (i := 8) (v := M 0 8) hC dX11_bestSeller_16 1 rfl (by omega) (by decide) rfl ?_
  refine J_topi hbc ?_
  refine J_ic_geN (a := 0) (b := bc) (tgt := 62) hC dX11_bestSeller_17 (by decide) (by omega) (by omega) (fun (c_17 : bc ≤ 0) => ?_) (fun (c_17 : 0 < bc) => ?_)
  · refine J_iload_n hC dX11_bestSeller_62 1 rfl rfl ?_
    refine J_iconst (v := (-1)) hC dX11_bestSeller_63 rfl ?_
    refine J_ic_ne (tgt := 71) hC dX11_bestSeller_64 (by decide) (fun c => absurd (by decide) c) (fun _ => ?_)
    refine J_iconst (v := (-1)) hC dX11_bestSeller_67 rfl ?_
    refine J_goto (tgt := 76) hC dX11_bestSeller_68 (by decide) ?_
    refine J_iret hC hR dX11_bestSeller_76 rfl () ?_ ?_ (by decide) (by decide)
    · rw [if_pos (by omega)]
    · rfl
  · refine J_iload_n hC dX11_bestSeller_20 1 rfl rfl ?_
    refine J_iconst (v := (-1)) hC dX11_bestSeller_21 rfl ?_
    refine J_ic_eq (tgt := 50) hC dX11_bestSeller_22 (by decide) (fun _ => ?_) (fun c => absurd (by decide) c)
    refine J_iload_n hC dX11_bestSeller_50 0 rfl rfl ?_
    refine J_goto (tgt := 55) hC dX11_bestSeller_51 (by decide) ?_
    refine J_istore_n hC [(1, .int 0), (2, .int 0), (0, .ref (m 0))] dX11_bestSeller_55 rfl (by decide) rfl ?_
    refine J_iinc hC [(2, .int 1), (1, .int 0), (0, .ref (m 0))] dX11_bestSeller_56 1 rfl (by decide +kernel) (by decide) rfl ?_
    refine J_goto (tgt := 9) hC dX11_bestSeller_59 (by decide) ?_
    refine J_lv (lv' := [(0, .ref (m 0)), (1, .int 0), (2, .int 1)]) [2, 1, 0] rfl ?_
    exact (key _) 1 0 (by omega) (by omega) (rfl) (Nat.lt_succ_self _)

set_option maxRecDepth 100000 in
set_option maxHeartbeats 4000000 in
theorem c_X11_tomorrowIn (l : Launch) (G : gT) (m : Nat → Nat) (M : CT) (bc : Nat) (vc : Nat) (fc : Nat) (mc : Nat) (v : Int32) (hbc : M 0 8 = nI bc) (bbc : bc ≤ 30) (hvc : M 0 6 = nI vc) (bvc : vc ≤ 6) (hfc : M 0 7 = nI fc) (bfc : fc ≤ 6) (hmc : M 0 9 = nI mc) (bmc : mc ≤ 10) (hmI : mI (M 0) bc vc fc mc) : MI l yX11_tomorrowIn cX11_tomorrowIn 4 (some .int) { frames := 3, cells := 0, slots := 0, locals := 66 } [.ref (m 0), .int v] G (mdW G m M) (fun r (u : CT) => ((inr v vc) ∧ nI (m_wb (M 0) (fo (fun _ s => s_seed s) 0 (cl v + 1) (M 0 0))) = r ∧ (us M 8 2 0) = u) ∨ ((¬ inr v vc) ∧ 0 = r ∧ (us M 8 2 1) = u)) (fun u => mdW G m u) := by
  refine jm_i (own := RX11) (by decide) rfl (Nat.le_of_ble_eq_true rfl) (fun x hl hC hR hN => ?_)
  subst hl
  obtain ⟨oa, ob, oc, boa, bob, boc, h1o, hoa, hob, hoc⟩ := hmI.2.2.2.2.2.2.1
  obtain ⟨s9, hs9, es9⟩ := hmI.2.2.2.2.2.2.2
  have key : ∀ fuel : Nat, (∀ (i : Nat) (sd : Nat), (i ≤ cl v + 1) → (inr v vc) → (sd < 1024) → (fo (fun _ s => s_seed s) 0 (cl v + 1) (nI s9) = fo (fun _ s => s_seed s) i (cl v + 1 - i) (nI sd)) → cl v + 1 - i < fuel → J x G (mdW G m (us M 8 2 0)) 0 0 [(0, .ref (m 0)), (1, .int (nI (cl v))), (2, .int (nI sd)), (3, .int (nI i))] [] 19) := by
    intro fuel
    induction fuel with
    | zero => exact fun _ _ _ _ _ _ h => absurd h (Nat.not_lt_zero _)
    | succ fuel ih =>
      intro i sd hi hin hs hI hmu
      obtain ⟨ev, hv⟩ := inr_eq hin (by omega)
      refine J_iload_n hC dX11_tomorrowIn_19 3 rfl rfl ?_
      refine J_iload_n hC dX11_tomorrowIn_20 1 rfl rfl ?_
      refine J_ic_gtN (a := i) (b := cl v) (tgt := 35) hC dX11_tomorrowIn_21 (by decide) (by omega) (by omega) (fun (c_21 : (cl v) < i) => ?_) (fun (c_21 : i ≤ (cl v)) => ?_)
      · refine J_aload_n hC dX11_tomorrowIn_35 0 rfl rfl ?_
        refine J_get (v := .ref (m 1)) hC wu_X11 rfl dX11_tomorrowIn_36 0 0 (by decide) wf_X11_7 rfl rfl ?_
        refine J_iload_n hC dX11_tomorrowIn_39 2 rfl rfl ?_
        refine J_callSi hC dX11_tomorrowIn_40 wl_X11_128 wi_X11 yi_X11_weatherBy (mdl0_ir (c_X11_weatherBy _ G (m 1) (M 0) oa ob oc sd (hoa) (by omega) (hob) (by omega) (hoc) (by omega) (by omega) (by omega))) rfl rfl ⟨Nat.le_of_ble_eq_true rfl, Nat.le_of_ble_eq_true rfl⟩ (Nat.le_of_ble_eq_true rfl) (Nat.le_of_ble_eq_true rfl) (Nat.le_of_ble_eq_true rfl) (fun r u h_40 => ?_)
        subst h_40
        refine J_iret hC hR dX11_tomorrowIn_43 rfl (us M 8 2 0) ?_ ?_ (by decide) (by decide)
        · exact Or.inl ⟨hin, by rw [es9, hI, fo_done (by omega)], rfl⟩
        · rfl
      · refine J_iload_n hC dX11_tomorrowIn_24 2 rfl rfl ?_
        refine J_callSi hC dX11_tomorrowIn_25 wl_X11_125 wi_X11 yi_X11_seedBehind (c_X11_seedBehind _ G (mdW G m (us M 8 2 0)) (nI sd)) rfl rfl ⟨Nat.le_of_ble_eq_true rfl, Nat.le_of_ble_eq_true rfl⟩ (Nat.le_of_ble_eq_true rfl) (Nat.le_of_ble_eq_true rfl) (Nat.le_of_ble_eq_true rfl) (fun r u h_25 => ?_)
        subst h_25
        refine J_topi (seed_nat hs) ?_
        refine J_istore_n hC [(2, .int (nI ((29 * sd + 11) % 1024))), (0, .ref (m 0)), (1, .int (nI (cl v))), (3, .int (nI i))] dX11_tomorrowIn_28 rfl (by decide) rfl ?_
        refine J_iinc hC [(3, .int (nI (i + 1))), (2, .int (nI ((29 * sd + 11) % 1024))), (0, .ref (m 0)), (1, .int (nI (cl v)))] dX11_tomorrowIn_29 3 rfl (nI_inc _) (by decide) rfl ?_
        refine J_goto (tgt := 19) hC dX11_tomorrowIn_32 (by decide) ?_
        refine J_lv (lv' := [(0, .ref (m 0)), (1, .int (nI (cl v))), (2, .int (nI ((29 * sd + 11) % 1024))), (3, .int (nI (i + 1)))]) [2, 3, 1, 0] rfl ?_
        exact ih (i + 1) ((29 * sd + 11) % 1024) (by omega) (hin) (by omega) (hI.trans ((fo_step (by omega)).trans (congrArg _ (seed_nat hs)))) (by omega)
  refine J_aload_n hC dX11_tomorrowIn_0 0 rfl rfl ?_
  refine J_iload_n hC dX11_tomorrowIn_1 1 rfl rfl ?_
  refine J_callVi hC dX11_tomorrowIn_2 wl_X11_284 yi_X11_noVillage (c_X11_noVillage _ G m M vc v (hvc) (by omega)) rfl rfl 0 11 rfl rfl ⟨Nat.le_of_ble_eq_true rfl, Nat.le_of_ble_eq_true rfl⟩ (Nat.le_of_ble_eq_true rfl) (Nat.le_of_ble_eq_true rfl) (Nat.le_of_ble_eq_true rfl) (fun r u h_2 => ?_)
  rcases h_2 with ⟨c_2, rfl, rfl⟩ | ⟨c_2, rfl, rfl⟩
  · refine J_if_eq (tgt := 10) hC dX11_tomorrowIn_5 (by decide) (fun _ => ?_) (fun c => absurd (by decide) c)
    obtain ⟨ev, hv⟩ := inr_eq c_2 (by omega)
    refine J_lvq (lv' := [(0, .ref (m 0)), (1, .int (nI (cl v)))]) (by rw [← ev]; first | done | rfl) ?_
    refine J_aload_n hC dX11_tomorrowIn_10 0 rfl rfl ?_
    refine J_get (v := .ref (m 1)) hC wu_X11 rfl dX11_tomorrowIn_11 0 0 (by decide) wf_X11_7 rfl rfl ?_
    refine J_iconst (v := 0) hC dX11_tomorrowIn_14 rfl ?_
    refine J_iald (i := 0) (v := M 0 0) hC dX11_tomorrowIn_15 1 rfl (by omega) (by decide) rfl ?_
    refine J_topi es9 ?_
    refine J_istore_n hC [(2, .int (nI s9)), (0, .ref (m 0)), (1, .int (nI (cl v)))] dX11_tomorrowIn_16 rfl (by decide) rfl ?_
    refine J_iconst (v := 0) hC dX11_tomorrowIn_17 rfl ?_
    refine J_istore_n hC [(3, .int 0), (2, .int (nI s9)), (0, .ref (m 0)), (1, .int (nI (cl v)))] dX11_tomorrowIn_18 rfl (by decide) rfl ?_
    refine J_lv (lv' := [(0, .ref (m 0)), (1, .int (nI (cl v))), (2, .int (nI s9)), (3, .int 0)]) [2, 3, 1, 0] rfl ?_
    exact (key _) 0 s9 (by omega) (c_2) (by omega) (rfl) (Nat.lt_succ_self _)
  · refine J_if_eq (tgt := 10) hC dX11_tomorrowIn_5 (by decide) (fun c => absurd c (by decide)) (fun _ => ?_)
    refine J_iconst (v := 0) hC dX11_tomorrowIn_8 rfl ?_
    refine J_iret hC hR dX11_tomorrowIn_9 rfl (us M 8 2 1) ?_ ?_ (by decide) (by decide)
    · exact Or.inr (⟨c_2, rfl, rfl⟩)
    · rfl

set_option maxRecDepth 100000 in
set_option maxHeartbeats 4000000 in
theorem c_X11_daysUntilFair (l : Launch) (G : gT) (m : Nat → Nat) (M : CT) (bc : Nat) (vc : Nat) (fc : Nat) (mc : Nat) (dd : Nat) (v : Int32) (hbc : M 0 8 = nI bc) (bbc : bc ≤ 30) (hvc : M 0 6 = nI vc) (bvc : vc ≤ 6) (hfc : M 0 7 = nI fc) (bfc : fc ≤ 6) (hmc : M 0 9 = nI mc) (bmc : mc ≤ 10) (hdd : M 0 5 = nI dd) (bdd : dd ≤ 1000000) (hmI : mI (M 0) bc vc fc mc) : MI l yX11_daysUntilFair cX11_daysUntilFair 3 (some .int) { frames := 3, cells := 0, slots := 0, locals := 66 } [.ref (m 0), .int v] G (mdW G m M) (fun r (u : CT) => ((inr v fc) ∧ nI (m_per (M 0) (cl v) - (dd + cl v) % m_per (M 0) (cl v)) = r ∧ (us M 8 2 0) = u) ∨ ((¬ inr v fc) ∧ 0 = r ∧ (us M 8 2 1) = u)) (fun u => mdW G m u) := by
  refine jm_i (own := RX11) (by decide) rfl (Nat.le_of_ble_eq_true rfl) (fun x hl hC hR hN => ?_)
  subst hl
  have key : ∀ fuel : Nat, (∀ (j : Nat), (inr v fc) → (1 ≤ j ∧ j ≤ m_per (M 0) (cl v) - (dd + cl v) % m_per (M 0) (cl v)) → 13 - j < fuel → J x G (mdW G m (us M 8 2 0)) 0 0 [(0, .ref (m 0)), (1, .int (nI (cl v))), (2, .int (nI j))] [] 12) := by
    intro fuel
    induction fuel with
    | zero => exact fun _ _ _ h => absurd h (Nat.not_lt_zero _)
    | succ fuel ih =>
      intro j hin hj hmu
      obtain ⟨ev, hv⟩ := inr_eq hin (by omega)
      obtain ⟨p, hp1, hp2, hp⟩ := hmI.2.2.2.2.2.1 (cl v) hv
      have eP : m_per (M 0) (cl v) = p := by rw [m_per, hp, cl, nI_clamp (by omega)]
      have hx := Nat.mod_lt (dd + cl v) (show 0 < p by omega)
      rw [eP] at hj
      have hh := (held_iff (d := dd + j) hp hp1 hp2 (by omega) (by omega)).trans (show (dd + j + cl v) % p = 0 ↔ j = p - (dd + cl v) % p by rw [show dd + j + cl v = dd + cl v + j by omega]; exact next_held hp1 hj.1 hj.2)
      refine J_aload_n hC dX11_daysUntilFair_12 0 rfl rfl ?_
      refine J_get (v := .ref (m 1)) hC wu_X11 rfl dX11_daysUntilFair_13 0 0 (by decide) wf_X11_7 rfl rfl ?_
      refine J_iload_n hC dX11_daysUntilFair_16 1 rfl rfl ?_
      refine J_aload_n hC dX11_daysUntilFair_17 0 rfl rfl ?_
      refine J_get (v := .ref (m 1)) hC wu_X11 rfl dX11_daysUntilFair_18 0 0 (by decide) wf_X11_7 rfl rfl ?_
      refine J_iconst (v := 5) hC dX11_daysUntilFair_21 rfl ?_
      refine J_iald (i := 5) (v := M 0 5) hC dX11_daysUntilFair_22 1 rfl (by omega) (by decide) rfl ?_
      refine J_topi hdd ?_
      refine J_iload_n hC dX11_daysUntilFair_23 2 rfl rfl ?_
      refine J_iadd (v := nI (dd + j)) hC dX11_daysUntilFair_24 (nI_add dd j) ?_
      refine J_callSi hC dX11_daysUntilFair_25 wl_X11_118 wi_X11 yi_X11_isHeld (mdl0_ir (c_X11_isHeld _ G (m 1) (M 0) (cl v) (nI (dd + j)) (by omega) (by rw [hp]; exact nI_ne0 (by omega) (by omega)))) rfl rfl ⟨Nat.le_of_ble_eq_true rfl, Nat.le_of_ble_eq_true rfl⟩ (Nat.le_of_ble_eq_true rfl) (Nat.le_of_ble_eq_true rfl) (Nat.le_of_ble_eq_true rfl) (fun r u h_25 => ?_)
      rcases h_25 with ⟨rfl, c_25⟩ | ⟨rfl, c_25⟩
      · refine J_if_ne (tgt := 37) hC dX11_daysUntilFair_28 (by decide) (fun _ => ?_) (fun c => absurd c (by decide))
        refine J_iload_n hC dX11_daysUntilFair_37 2 rfl rfl ?_
        refine J_iret hC hR dX11_daysUntilFair_38 rfl (us M 8 2 0) ?_ ?_ (by decide) (by decide)
        · exact Or.inl ⟨hin, by rw [eP]; exact congrArg nI (hh.mp c_25).symm, rfl⟩
        · rfl
      · refine J_if_ne (tgt := 37) hC dX11_daysUntilFair_28 (by decide) (fun c => absurd (by decide) c) (fun _ => ?_)
        refine J_iinc hC [(2, .int (nI (j + 1))), (0, .ref (m 0)), (1, .int (nI (cl v)))] dX11_daysUntilFair_31 2 rfl (nI_inc _) (by decide) rfl ?_
        refine J_goto (tgt := 12) hC dX11_daysUntilFair_34 (by decide) ?_
        refine J_lv (lv' := [(0, .ref (m 0)), (1, .int (nI (cl v))), (2, .int (nI (j + 1)))]) [1, 2, 0] rfl ?_
        exact ih (j + 1) (hin) (by rw [eP]; have := mt hh.mpr c_25; omega) (by omega)
  refine J_aload_n hC dX11_daysUntilFair_0 0 rfl rfl ?_
  refine J_iload_n hC dX11_daysUntilFair_1 1 rfl rfl ?_
  refine J_callVi hC dX11_daysUntilFair_2 wl_X11_287 yi_X11_noFair (c_X11_noFair _ G m M fc v (hfc) (by omega)) rfl rfl 0 11 rfl rfl ⟨Nat.le_of_ble_eq_true rfl, Nat.le_of_ble_eq_true rfl⟩ (Nat.le_of_ble_eq_true rfl) (Nat.le_of_ble_eq_true rfl) (Nat.le_of_ble_eq_true rfl) (fun r u h_2 => ?_)
  rcases h_2 with ⟨c_2, rfl, rfl⟩ | ⟨c_2, rfl, rfl⟩
  · refine J_if_eq (tgt := 10) hC dX11_daysUntilFair_5 (by decide) (fun _ => ?_) (fun c => absurd (by decide) c)
    obtain ⟨ev, hv⟩ := inr_eq c_2 (by omega)
    refine J_lvq (lv' := [(0, .ref (m 0)), (1, .int (nI (cl v)))]) (by rw [← ev]; first | done | rfl) ?_
    refine J_iconst (v := 1) hC dX11_daysUntilFair_10 rfl ?_
    refine J_istore_n hC [(2, .int 1), (0, .ref (m 0)), (1, .int (nI (cl v)))] dX11_daysUntilFair_11 rfl (by decide) rfl ?_
    refine J_lv (lv' := [(0, .ref (m 0)), (1, .int (nI (cl v))), (2, .int 1)]) [1, 2, 0] rfl ?_
    exact (key _) 1 (c_2) (by obtain ⟨p, hp1, hp2, hp⟩ := hmI.2.2.2.2.2.1 (cl v) hv; rw [show m_per (M 0) (cl v) = p by rw [m_per, hp, cl, nI_clamp (by omega)]]; have hx := Nat.mod_lt (dd + cl v) (show 0 < p by omega); omega) (Nat.lt_succ_self _)
  · refine J_if_eq (tgt := 10) hC dX11_daysUntilFair_5 (by decide) (fun c => absurd c (by decide)) (fun _ => ?_)
    refine J_iconst (v := 0) hC dX11_daysUntilFair_8 rfl ?_
    refine J_iret hC hR dX11_daysUntilFair_9 rfl (us M 8 2 1) ?_ ?_ (by decide) (by decide)
    · exact Or.inr (⟨c_2, rfl, rfl⟩)
    · rfl

theorem ge_le_nat {n : Nat} (h : ¬ nI n < 1 ∧ ¬ 4 < nI n) (hn : n < 2 ^ 30 := by omega) : 1 ≤ n ∧ n ≤ 4 := by
  rw [fa_lt, fa_lt, nI_toInt (by omega), show ((1 : Int32)).toInt = 1 from rfl, show ((4 : Int32)).toInt = 4 from rfl] at h
  omega
theorem nat_ge_le {n : Nat} (h : 1 ≤ n ∧ n ≤ 4) : ¬ nI n < 1 ∧ ¬ 4 < nI n := by
  rw [fa_lt, fa_lt, nI_toInt (by omega), show ((1 : Int32)).toInt = 1 from rfl, show ((4 : Int32)).toInt = 4 from rfl]
  omega

set_option maxRecDepth 100000 in
set_option maxHeartbeats 4000000 in
theorem c_X11_nameFrom (l : Launch) (G : gT) (m : Nat → Nat) (M : CT) (a : Nat) (n : Nat) (ha : a + n ≤ 600) : MI l yX11_nameFrom cX11_nameFrom 5 (some .int) { frames := 2, cells := 0, slots := 0, locals := 42 } [.ref (m 0), .int (nI a), .int (nI n)] G (mdW G m M) (fun r (_ : Unit) => r = q_nm (M 6) a n) (fun _ => mdW G m M) := by
  refine jm_i (own := RX11) (by decide) rfl (Nat.le_of_ble_eq_true rfl) (fun x hl hC hR hN => ?_)
  subst hl
  have key : ∀ fuel : Nat, (∀ (i : Nat) (acc : Int32), (i ≤ 4) → (1 ≤ n ∧ n ≤ 4) → (q_nm (M 6) a n = q_nmL (M 6) a n i (4 - i) acc) → 4 - i < fuel → J x G (mdW G m M) 0 0 [(0, .ref (m 0)), (1, .int (nI a)), (2, .int (nI n)), (3, .int acc), (4, .int (nI i))] [] 16) := by
    intro fuel
    induction fuel with
    | zero => exact fun _ _ _ _ _ h => absurd h (Nat.not_lt_zero _)
    | succ fuel ih =>
      intro i acc hi hn hI hmu
      refine J_iload hC dX11_nameFrom_16 4 rfl ?_
      refine J_iconst (v := 4) hC dX11_nameFrom_18 rfl ?_
      refine J_ic_geN (a := i) (b := 4) (tgt := 79) hC dX11_nameFrom_19 (by decide) (by omega) (by omega) (fun (c_19 : 4 ≤ i) => ?_) (fun (c_19 : i < 4) => ?_)
      · refine J_iload_n hC dX11_nameFrom_79 3 rfl rfl ?_
        refine J_iret hC hR dX11_nameFrom_80 rfl () ?_ ?_ (by decide) (by decide)
        · rw [hI, show 4 - i = 0 by omega]; rfl
        · rfl
      · refine J_iload hC dX11_nameFrom_22 4 rfl ?_
        refine J_iload_n hC dX11_nameFrom_24 2 rfl rfl ?_
        refine J_ic_geN (a := i) (b := n) (tgt := 45) hC dX11_nameFrom_25 (by decide) (by omega) (by omega) (fun (c_25 : n ≤ i) => ?_) (fun (c_25 : i < n) => ?_)
        · refine J_iload_n hC dX11_nameFrom_45 3 rfl rfl ?_
          refine J_bipush (v := 27) hC dX11_nameFrom_46 (by decide +kernel) ?_
          refine J_imul (v := acc * 27) hC dX11_nameFrom_48 rfl ?_
          refine J_iload hC dX11_nameFrom_49 4 rfl ?_
          refine J_iload_n hC dX11_nameFrom_51 2 rfl rfl ?_
          refine J_ic_geN (a := i) (b := n) (tgt := 70) hC dX11_nameFrom_52 (by decide) (by omega) (by omega) (fun (c_52 : n ≤ i) => ?_) (fun (c_52 : i < n) => ?_)
          · refine J_iconst (v := 0) hC dX11_nameFrom_70 rfl ?_
            refine J_iadd (v := acc * 27) hC dX11_nameFrom_71 (Int32.add_zero _) ?_
            refine J_istore_n hC [(3, .int (acc * 27)), (0, .ref (m 0)), (1, .int (nI a)), (2, .int (nI n)), (4, .int (nI i))] dX11_nameFrom_72 rfl (by decide) rfl ?_
            refine J_iinc hC [(4, .int (nI (i + 1))), (3, .int (acc * 27)), (0, .ref (m 0)), (1, .int (nI a)), (2, .int (nI n))] dX11_nameFrom_73 4 rfl (nI_inc _) (by decide) rfl ?_
            refine J_goto (tgt := 16) hC dX11_nameFrom_76 (by decide) ?_
            refine J_lv (lv' := [(0, .ref (m 0)), (1, .int (nI a)), (2, .int (nI n)), (3, .int (acc * 27)), (4, .int (nI (i + 1)))]) [2, 3, 4, 1, 0] rfl ?_
            exact ih (i + 1) (acc * 27) (by omega) (hn) (by rw [hI, show 4 - i = 4 - (i + 1) + 1 by omega, q_nmL, if_neg (by omega)]) (by omega)
          · exfalso; omega
        · refine J_aload_n hC dX11_nameFrom_28 0 rfl rfl ?_
          refine J_get (v := .ref (m 7)) hC wu_X11 rfl dX11_nameFrom_29 0 9 (by decide) wf_X11_29 rfl rfl ?_
          refine J_iload_n hC dX11_nameFrom_32 1 rfl rfl ?_
          refine J_iload hC dX11_nameFrom_33 4 rfl ?_
          refine J_iadd (v := nI (a + i)) hC dX11_nameFrom_35 (nI_add a i) ?_
          refine J_iald (i := a + i) (v := M 6 (a + i)) hC dX11_nameFrom_36 7 rfl (by omega) (by decide) rfl ?_
          refine J_callSi hC dX11_nameFrom_37 wl_X11_177 wi_X11 yi_X11_isLetter (c_X11_isLetter _ G (mdW G m M) (M 6 (a + i))) rfl rfl ⟨Nat.le_of_ble_eq_true rfl, Nat.le_of_ble_eq_true rfl⟩ (Nat.le_of_ble_eq_true rfl) (Nat.le_of_ble_eq_true rfl) (Nat.le_of_ble_eq_true rfl) (fun r u h_37 => ?_)
          rcases h_37 with ⟨rfl, c_37⟩ | ⟨rfl, c_37⟩
          · refine J_if_ne (tgt := 45) hC dX11_nameFrom_40 (by decide) (fun _ => ?_) (fun c => absurd c (by decide))
            refine J_iload_n hC dX11_nameFrom_45 3 rfl rfl ?_
            refine J_bipush (v := 27) hC dX11_nameFrom_46 (by decide +kernel) ?_
            refine J_imul (v := acc * 27) hC dX11_nameFrom_48 rfl ?_
            refine J_iload hC dX11_nameFrom_49 4 rfl ?_
            refine J_iload_n hC dX11_nameFrom_51 2 rfl rfl ?_
            refine J_ic_geN (a := i) (b := n) (tgt := 70) hC dX11_nameFrom_52 (by decide) (by omega) (by omega) (fun (c_52 : n ≤ i) => ?_) (fun (c_52 : i < n) => ?_)
            · exfalso; omega
            · refine J_aload_n hC dX11_nameFrom_55 0 rfl rfl ?_
              refine J_get (v := .ref (m 7)) hC wu_X11 rfl dX11_nameFrom_56 0 9 (by decide) wf_X11_29 rfl rfl ?_
              refine J_iload_n hC dX11_nameFrom_59 1 rfl rfl ?_
              refine J_iload hC dX11_nameFrom_60 4 rfl ?_
              refine J_iadd (v := nI (a + i)) hC dX11_nameFrom_62 (nI_add a i) ?_
              refine J_iald (i := a + i) (v := M 6 (a + i)) hC dX11_nameFrom_63 7 rfl (by omega) (by decide) rfl ?_
              refine J_bipush (v := 96) hC dX11_nameFrom_64 (by decide +kernel) ?_
              refine J_isub (v := (M 6 (a + i)) - 96) hC dX11_nameFrom_66 rfl ?_
              refine J_goto (tgt := 71) hC dX11_nameFrom_67 (by decide) ?_
              refine J_iadd (v := (acc * 27) + ((M 6 (a + i)) - 96)) hC dX11_nameFrom_71 rfl ?_
              refine J_istore_n hC [(3, .int ((acc * 27) + ((M 6 (a + i)) - 96))), (0, .ref (m 0)), (1, .int (nI a)), (2, .int (nI n)), (4, .int (nI i))] dX11_nameFrom_72 rfl (by decide) rfl ?_
              refine J_iinc hC [(4, .int (nI (i + 1))), (3, .int ((acc * 27) + ((M 6 (a + i)) - 96))), (0, .ref (m 0)), (1, .int (nI a)), (2, .int (nI n))] dX11_nameFrom_73 4 rfl (nI_inc _) (by decide) rfl ?_
              refine J_goto (tgt := 16) hC dX11_nameFrom_76 (by decide) ?_
              refine J_lv (lv' := [(0, .ref (m 0)), (1, .int (nI a)), (2, .int (nI n)), (3, .int ((acc * 27) + ((M 6 (a + i)) - 96))), (4, .int (nI (i + 1)))]) [2, 3, 4, 1, 0] rfl ?_
              exact ih (i + 1) ((acc * 27) + ((M 6 (a + i)) - 96)) (by omega) (hn) (by rw [hI, show 4 - i = 4 - (i + 1) + 1 by omega, q_nmL, if_pos c_25, if_pos c_37]) (by omega)
          · refine J_if_ne (tgt := 45) hC dX11_nameFrom_40 (by decide) (fun c => absurd (by decide) c) (fun _ => ?_)
            refine J_iconst (v := (-1)) hC dX11_nameFrom_43 rfl ?_
            refine J_iret hC hR dX11_nameFrom_44 rfl () ?_ ?_ (by decide) (by decide)
            · rw [hI, show 4 - i = 4 - (i + 1) + 1 by omega, q_nmL, if_pos (by omega), if_neg c_37]
            · rfl
  refine J_iload_n hC dX11_nameFrom_0 2 rfl rfl ?_
  refine J_iconst (v := 1) hC dX11_nameFrom_1 rfl ?_
  refine J_iconst (v := 4) hC dX11_nameFrom_2 rfl ?_
  refine J_callSi hC dX11_nameFrom_3 wl_X11_156 wi_X11 yi_X11_isBetween (c_X11_isBetween _ G (mdW G m M) (nI n) 1 4) rfl rfl ⟨Nat.le_of_ble_eq_true rfl, Nat.le_of_ble_eq_true rfl⟩ (Nat.le_of_ble_eq_true rfl) (Nat.le_of_ble_eq_true rfl) (Nat.le_of_ble_eq_true rfl) (fun r u h_3 => ?_)
  rcases h_3 with ⟨rfl, c_3⟩ | ⟨rfl, c_3⟩
  · refine J_if_ne (tgt := 11) hC dX11_nameFrom_6 (by decide) (fun _ => ?_) (fun c => absurd c (by decide))
    refine J_iconst (v := 0) hC dX11_nameFrom_11 rfl ?_
    refine J_istore_n hC [(3, .int 0), (0, .ref (m 0)), (1, .int (nI a)), (2, .int (nI n))] dX11_nameFrom_12 rfl (by decide) rfl ?_
    refine J_iconst (v := 0) hC dX11_nameFrom_13 rfl ?_
    refine J_istore hC [(4, .int 0), (3, .int 0), (0, .ref (m 0)), (1, .int (nI a)), (2, .int (nI n))] dX11_nameFrom_14 (by decide) rfl ?_
    refine J_lv (lv' := [(0, .ref (m 0)), (1, .int (nI a)), (2, .int (nI n)), (3, .int 0), (4, .int 0)]) [2, 3, 4, 1, 0] rfl ?_
    exact (key _) 0 0 (by omega) (ge_le_nat c_3) (by rw [q_nm, if_pos (ge_le_nat c_3)]) (Nat.lt_succ_self _)
  · refine J_if_ne (tgt := 11) hC dX11_nameFrom_6 (by decide) (fun c => absurd (by decide) c) (fun _ => ?_)
    refine J_iconst (v := (-1)) hC dX11_nameFrom_9 rfl ?_
    refine J_iret hC hR dX11_nameFrom_10 rfl () ?_ ?_ (by decide) (by decide)
    · rw [q_nm, if_neg (mt nat_ge_le c_3)]
    · rfl

set_option maxRecDepth 100000 in
set_option maxHeartbeats 4000000 in
theorem c_X11_findName (l : Launch) (G : gT) (m : Nat → Nat) (M : CT) (vc : Nat) (fc : Nat) (il : Nat) (hvc : M 0 6 = nI vc) (bvc : vc ≤ 6) (hfc : M 0 7 = nI fc) (bfc : fc ≤ 6) (hil : M 8 3 = nI il) (bil : il ≤ 600) : MI l yX11_findName cX11_findName 4 (some .int) { frames := 3, cells := 0, slots := 0, locals := 66 } [.ref (m 0)] G (mdW G m M) (fun r (_ : Unit) => r = m_findName (M 0) (M 6) il vc fc) (fun _ => mdW G m (us M 8 2 0)) := by
  refine jm_i (own := RX11) (by decide) rfl (Nat.le_of_ble_eq_true rfl) (fun x hl hC hR hN => ?_)
  subst hl
  refine J_aload_n hC dX11_findName_0 0 rfl rfl ?_
  refine J_iconst (v := 0) hC dX11_findName_1 rfl ?_
  refine J_put (ws' := mdW G m (us M 8 2 0)) hC wu_X11 rfl tyX11_ok nmX11 dX11_findName_2 0 8 (by decide) wf_X11_66 rfl rfl (Nat.le_of_ble_eq_true rfl) rfl rfl rfl ?_
  refine J_aload_n hC dX11_findName_5 0 rfl rfl ?_
  refine J_iconst (v := 0) hC dX11_findName_6 rfl ?_
  refine J_aload_n hC dX11_findName_7 0 rfl rfl ?_
  refine J_get (v := .int (M 8 3)) hC wu_X11 rfl dX11_findName_8 0 10 (by decide) wf_X11_49 rfl rfl ?_
  refine J_topi hil ?_
  refine J_callVi hC dX11_findName_11 wl_X11_195 yi_X11_nameFrom (c_X11_nameFrom _ G m (us M 8 2 0) 0 il (by omega)) rfl rfl 0 11 rfl rfl ⟨Nat.le_of_ble_eq_true rfl, Nat.le_of_ble_eq_true rfl⟩ (Nat.le_of_ble_eq_true rfl) (Nat.le_of_ble_eq_true rfl) (Nat.le_of_ble_eq_true rfl) (fun r u h_11 => ?_)
  subst h_11
  refine J_istore_n hC [(1, .int (q_nm (M 6) 0 il)), (0, .ref (m 0))] dX11_findName_14 rfl (by decide) rfl ?_
  refine J_iload_n hC dX11_findName_15 0 rfl rfl ?_
  refine J_iconst (v := (-1)) hC dX11_findName_16 rfl ?_
  refine J_ic_ne (tgt := 22) hC dX11_findName_17 (by decide) (fun (c_17 : ¬ (q_nm (M 6) 0 il) = (-1)) => ?_) (fun (c_17 : (q_nm (M 6) 0 il) = (-1)) => ?_)
  · refine J_aload_n hC dX11_findName_22 1 rfl rfl ?_
    refine J_get (v := .ref (m 1)) hC wu_X11 rfl dX11_findName_23 0 0 (by decide) wf_X11_7 rfl rfl ?_
    refine J_iload_n hC dX11_findName_26 0 rfl rfl ?_
    refine J_callSi hC dX11_findName_27 wl_X11_198 wi_X11 yi_X11_villageNamed (mdl0_ir (c_X11_villageNamed _ G (m 1) (M 0) vc (q_nm (M 6) 0 il) (hvc) (by omega))) rfl rfl ⟨Nat.le_of_ble_eq_true rfl, Nat.le_of_ble_eq_true rfl⟩ (Nat.le_of_ble_eq_true rfl) (Nat.le_of_ble_eq_true rfl) (Nat.le_of_ble_eq_true rfl) (fun r u h_27 => ?_)
    subst h_27
    rcases m_named_cases (M 0) 24 3 (q_nm (M 6) 0 il) vc with p_27 | ⟨k_27, hk_27, p_27⟩
    · refine J_topi p_27 ?_
      refine J_istore_n hC [(2, .int (-1)), (1, .int (q_nm (M 6) 0 il)), (0, .ref (m 0))] dX11_findName_30 rfl (by decide) rfl ?_
      refine J_iload_n hC dX11_findName_31 0 rfl rfl ?_
      refine J_iconst (v := (-1)) hC dX11_findName_32 rfl ?_
      refine J_ic_eq (tgt := 38) hC dX11_findName_33 (by decide) (fun _ => ?_) (fun c => absurd (by decide) c)
      refine J_aload_n hC dX11_findName_38 2 rfl rfl ?_
      refine J_get (v := .ref (m 1)) hC wu_X11 rfl dX11_findName_39 0 0 (by decide) wf_X11_7 rfl rfl ?_
      refine J_iload_n hC dX11_findName_42 1 rfl rfl ?_
      refine J_callSi hC dX11_findName_43 wl_X11_201 wi_X11 yi_X11_fairNamed (mdl0_ir (c_X11_fairNamed _ G (m 1) (M 0) fc (q_nm (M 6) 0 il) (hfc) (by omega))) rfl rfl ⟨Nat.le_of_ble_eq_true rfl, Nat.le_of_ble_eq_true rfl⟩ (Nat.le_of_ble_eq_true rfl) (Nat.le_of_ble_eq_true rfl) (Nat.le_of_ble_eq_true rfl) (fun r u h_43 => ?_)
      subst h_43
      rcases m_named_cases (M 0) 42 5 (q_nm (M 6) 0 il) fc with p_43 | ⟨k_43, hk_43, p_43⟩
      · refine J_topi p_43 ?_
        refine J_istore_n hC [(3, .int (-1)), (2, .int (-1)), (1, .int (q_nm (M 6) 0 il)), (0, .ref (m 0))] dX11_findName_46 rfl (by decide) rfl ?_
        refine J_iload_n hC dX11_findName_47 0 rfl rfl ?_
        refine J_iconst (v := (-1)) hC dX11_findName_48 rfl ?_
        refine J_ic_eq (tgt := 57) hC dX11_findName_49 (by decide) (fun _ => ?_) (fun c => absurd (by decide) c)
        refine J_iconst (v := (-1)) hC dX11_findName_57 rfl ?_
        refine J_iret hC hR dX11_findName_58 rfl () ?_ ?_ (by decide) (by decide)
        · rw [m_findName, if_neg c_17, m_vn, if_pos p_27, m_fn, if_pos p_43]
        · rfl
      · refine J_topi p_43 ?_
        refine J_istore_n hC [(3, .int (nI k_43)), (2, .int (-1)), (1, .int (q_nm (M 6) 0 il)), (0, .ref (m 0))] dX11_findName_46 rfl (by decide) rfl ?_
        refine J_iload_n hC dX11_findName_47 0 rfl rfl ?_
        refine J_iconst (v := (-1)) hC dX11_findName_48 rfl ?_
        refine J_ic_eq (tgt := 57) hC dX11_findName_49 (by decide) (fun c => absurd c (nI_ne_m1 (by omega))) (fun _ => ?_)
        refine J_bipush (v := 100) hC dX11_findName_52 (by decide +kernel) ?_
        refine J_iload_n hC dX11_findName_54 0 rfl rfl ?_
        refine J_iadd (v := nI (100 + k_43)) hC dX11_findName_55 (nI_add 100 k_43) ?_
        refine J_iret hC hR dX11_findName_56 rfl () ?_ ?_ (by decide) (by decide)
        · rw [m_findName, if_neg c_17, m_vn, if_pos p_27, m_fn, p_43, if_neg (nI_ne_m1 (by omega))]
          exact (nI_add 100 _).symm
        · rfl
    · refine J_topi p_27 ?_
      refine J_istore_n hC [(2, .int (nI k_27)), (1, .int (q_nm (M 6) 0 il)), (0, .ref (m 0))] dX11_findName_30 rfl (by decide) rfl ?_
      refine J_iload_n hC dX11_findName_31 0 rfl rfl ?_
      refine J_iconst (v := (-1)) hC dX11_findName_32 rfl ?_
      refine J_ic_eq (tgt := 38) hC dX11_findName_33 (by decide) (fun c => absurd c (nI_ne_m1 (by omega))) (fun _ => ?_)
      refine J_iload_n hC dX11_findName_36 0 rfl rfl ?_
      refine J_iret hC hR dX11_findName_37 rfl () ?_ ?_ (by decide) (by decide)
      · rw [m_findName, if_neg c_17, m_vn, p_27, if_neg (nI_ne_m1 (by omega))]
      · rfl
  · refine J_iconst (v := (-1)) hC dX11_findName_20 rfl ?_
    refine J_iret hC hR dX11_findName_21 rfl () ?_ ?_ (by decide) (by decide)
    · rw [m_findName, if_pos c_17]
    · rfl

set_option maxRecDepth 100000 in
set_option maxHeartbeats 4000000 in
theorem c_X11_alikeBehind (l : Launch) (G : gT) (m : Nat → Nat) (M : CT) (bc : Nat) (k : Nat) (hbc : M 0 8 = nI bc) (bbc : bc ≤ 30) (hk : k < bc) : MI l yX11_alikeBehind cX11_alikeBehind 4 (some .int) { frames := 2, cells := 0, slots := 0, locals := 41 } [.ref (m 0), .int (nI k)] G (mdW G m M) (fun r (_ : Unit) => r = m_alike (M 0) k bc) (fun _ => mdW G m M) := by
  refine jm_i (own := RX11) (by decide) rfl (Nat.le_of_ble_eq_true rfl) (fun x hl hC hR hN => ?_)
  subst hl
  have key : ∀ fuel : Nat, (∀ (j : Nat) (acc : Int32), (k + 1 ≤ j ∧ j ≤ bc) → (m_alike (M 0) k bc = fo (fun j s => if m_told (M 0) j = m_told (M 0) k then s + 1 else s) j (bc - j) acc) → bc - j < fuel → J x G (mdW G m M) 0 0 [(0, .ref (m 0)), (1, .int (nI k)), (2, .int acc), (3, .int (nI j))] [] 6) := by
    intro fuel
    induction fuel with
    | zero => exact fun _ _ _ _ h => absurd h (Nat.not_lt_zero _)
    | succ fuel ih =>
      intro j acc hj hI hmu
      refine J_iload_n hC dX11_alikeBehind_6 3 rfl rfl ?_
      refine J_aload_n hC dX11_alikeBehind_7 0 rfl rfl ?_
      refine J_get (v := .ref (m 1)) hC wu_X11 rfl dX11_alikeBehind_8 0 0 (by decide) wf_X11_7 rfl rfl ?_
      refine J_bipush (v := 8) hC dX11_alikeBehind_11 (by decide +kernel) ?_
      refine J_iald (i := 8) (v := M 0 8) hC dX11_alikeBehind_13 1 rfl (by omega) (by decide) rfl ?_
      refine J_topi hbc ?_
      refine J_ic_geN (a := j) (b := bc) (tgt := 39) hC dX11_alikeBehind_14 (by decide) (by omega) (by omega) (fun (c_14 : bc ≤ j) => ?_) (fun (c_14 : j < bc) => ?_)
      · refine J_iload_n hC dX11_alikeBehind_39 2 rfl rfl ?_
        refine J_iret hC hR dX11_alikeBehind_40 rfl () ?_ ?_ (by decide) (by decide)
        · exact (hI.trans (fo_done c_14)).symm
        · rfl
      · refine J_aload_n hC dX11_alikeBehind_17 0 rfl rfl ?_
        refine J_iload_n hC dX11_alikeBehind_18 3 rfl rfl ?_
        refine J_callVi hC dX11_alikeBehind_19 wl_X11_297 yi_X11_told (c_X11_told _ G m M j (by omega)) rfl rfl 0 11 rfl rfl ⟨Nat.le_of_ble_eq_true rfl, Nat.le_of_ble_eq_true rfl⟩ (Nat.le_of_ble_eq_true rfl) (Nat.le_of_ble_eq_true rfl) (Nat.le_of_ble_eq_true rfl) (fun r u h_19 => ?_)
        subst h_19
        refine J_aload_n hC dX11_alikeBehind_22 0 rfl rfl ?_
        refine J_iload_n hC dX11_alikeBehind_23 1 rfl rfl ?_
        refine J_callVi hC dX11_alikeBehind_24 wl_X11_297 yi_X11_told (c_X11_told _ G m M k (by omega)) rfl rfl 0 11 rfl rfl ⟨Nat.le_of_ble_eq_true rfl, Nat.le_of_ble_eq_true rfl⟩ (Nat.le_of_ble_eq_true rfl) (Nat.le_of_ble_eq_true rfl) (Nat.le_of_ble_eq_true rfl) (fun r u h_24 => ?_)
        subst h_24
        refine J_ic_ne (tgt := 33) hC dX11_alikeBehind_27 (by decide) (fun (c_27 : ¬ (10 * (M 0) (73 + 5 * j) + (M 0) (72 + 5 * j)) = (10 * (M 0) (73 + 5 * k) + (M 0) (72 + 5 * k))) => ?_) (fun (c_27 : (10 * (M 0) (73 + 5 * j) + (M 0) (72 + 5 * j)) = (10 * (M 0) (73 + 5 * k) + (M 0) (72 + 5 * k))) => ?_)
        · refine J_iinc hC [(3, .int (nI (j + 1))), (0, .ref (m 0)), (1, .int (nI k)), (2, .int acc)] dX11_alikeBehind_33 3 rfl (nI_inc _) (by decide) rfl ?_
          refine J_goto (tgt := 6) hC dX11_alikeBehind_36 (by decide) ?_
          refine J_lv (lv' := [(0, .ref (m 0)), (1, .int (nI k)), (2, .int acc), (3, .int (nI (j + 1)))]) [1, 2, 3, 0] rfl ?_
          exact ih (j + 1) acc (by omega) (hI.trans ((fo_step c_14).trans (congrArg _ (by rw [m_told, m_told, if_neg c_27])))) (by omega)
        · refine J_iinc hC [(2, .int (acc + 1)), (0, .ref (m 0)), (1, .int (nI k)), (3, .int (nI j))] dX11_alikeBehind_30 2 rfl (i_inc (by decide +kernel)) (by decide) rfl ?_
          refine J_iinc hC [(3, .int (nI (j + 1))), (2, .int (acc + 1)), (0, .ref (m 0)), (1, .int (nI k))] dX11_alikeBehind_33 3 rfl (nI_inc _) (by decide) rfl ?_
          refine J_goto (tgt := 6) hC dX11_alikeBehind_36 (by decide) ?_
          refine J_lv (lv' := [(0, .ref (m 0)), (1, .int (nI k)), (2, .int (acc + 1)), (3, .int (nI (j + 1)))]) [2, 3, 1, 0] rfl ?_
          exact ih (j + 1) (acc + 1) (by omega) (hI.trans ((fo_step c_14).trans (congrArg _ (by rw [m_told, m_told, if_pos c_27])))) (by omega)
  refine J_iconst (v := 0) hC dX11_alikeBehind_0 rfl ?_
  refine J_istore_n hC [(2, .int 0), (0, .ref (m 0)), (1, .int (nI k))] dX11_alikeBehind_1 rfl (by decide) rfl ?_
  refine J_iload_n hC dX11_alikeBehind_2 2 rfl rfl ?_
  refine J_iconst (v := 1) hC dX11_alikeBehind_3 rfl ?_
  refine J_iadd (v := nI (1 + k)) hC dX11_alikeBehind_4 ((nI_add k 1).trans (congrArg nI (by omega))) ?_
  refine J_istore_n hC [(3, .int (nI (1 + k))), (2, .int 0), (0, .ref (m 0)), (1, .int (nI k))] dX11_alikeBehind_5 rfl (by decide) rfl ?_
  refine J_lv (lv' := [(0, .ref (m 0)), (1, .int (nI k)), (2, .int 0), (3, .int (nI (1 + k)))]) [2, 3, 1, 0] rfl ?_
  exact (key _) (1 + k) 0 (by omega) (by rw [m_alike, Nat.add_comm 1 k]) (Nat.lt_succ_self _)

set_option maxRecDepth 100000 in
set_option maxHeartbeats 4000000 in
theorem c_X11_bookErrors (l : Launch) (G : gT) (m : Nat → Nat) (M : CT) (bc : Nat) (hbc : M 0 8 = nI bc) (bbc : bc ≤ 30) : MI l yX11_bookErrors cX11_bookErrors 4 (some .int) { frames := 3, cells := 0, slots := 0, locals := 64 } [.ref (m 0)] G (mdW G m M) (fun r (_ : Unit) => r = m_errs (M 0) bc) (fun _ => mdW G m (us M 8 2 0)) := by
  refine jm_i (own := RX11) (by decide) rfl (Nat.le_of_ble_eq_true rfl) (fun x hl hC hR hN => ?_)
  subst hl
  have key : ∀ fuel : Nat, (∀ (i : Nat) (acc : Int32), (i ≤ bc) → (m_errs (M 0) bc = fo (fun k s => (if m_find (M 0) (M 0 (72 + 5 * k)) (M 0 (73 + 5 * k)) bc = -1 then s + 1 else s) + m_alike (M 0) k bc) i (bc - i) acc) → bc - i < fuel → J x G (mdW G m (us M 8 2 0)) 0 0 [(0, .ref (m 0)), (1, .int acc), (2, .int (nI i))] [] 9) := by
    intro fuel
    induction fuel with
    | zero => exact fun _ _ _ _ h => absurd h (Nat.not_lt_zero _)
    | succ fuel ih =>
      intro i acc hi hI hmu
      refine J_iload_n hC dX11_bookErrors_9 2 rfl rfl ?_
      refine J_aload_n hC dX11_bookErrors_10 0 rfl rfl ?_
      refine J_get (v := .ref (m 1)) hC wu_X11 rfl dX11_bookErrors_11 0 0 (by decide) wf_X11_7 rfl rfl ?_
      refine J_bipush (v := 8) hC dX11_bookErrors_14 (by decide +kernel) ?_
      refine J_iald (i := 8) (v := M 0 8) hC dX11_bookErrors_16 1 rfl (by omega) (by decide) rfl ?_
      refine J_topi hbc ?_
      refine J_ic_geN (a := i) (b := bc) (tgt := 69) hC dX11_bookErrors_17 (by decide) (by omega) (by omega) (fun (c_17 : bc ≤ i) => ?_) (fun (c_17 : i < bc) => ?_)
      · refine J_iload_n hC dX11_bookErrors_69 1 rfl rfl ?_
        refine J_iret hC hR dX11_bookErrors_70 rfl () ?_ ?_ (by decide) (by decide)
        · exact (hI.trans (fo_done c_17)).symm
        · rfl
      · refine J_iload_n hC dX11_bookErrors_20 2 rfl rfl ?_
        refine J_callSi hC dX11_bookErrors_21 wl_X11_69 wi_X11 yi_X11_ofForecast (c_X11_ofForecast _ G (mdW G m (us M 8 2 0)) i) rfl rfl ⟨Nat.le_of_ble_eq_true rfl, Nat.le_of_ble_eq_true rfl⟩ (Nat.le_of_ble_eq_true rfl) (Nat.le_of_ble_eq_true rfl) (Nat.le_of_ble_eq_true rfl) (fun r u h_21 => ?_)
        subst h_21
        refine J_istore_n hC [(3, .int (nI (72 + 5 * i))), (0, .ref (m 0)), (1, .int acc), (2, .int (nI i))] dX11_bookErrors_24 rfl (by decide) rfl ?_
        refine J_aload_n hC dX11_bookErrors_25 1 rfl rfl ?_
        refine J_get (v := .ref (m 1)) hC wu_X11 rfl dX11_bookErrors_26 0 0 (by decide) wf_X11_7 rfl rfl ?_
        refine J_aload_n hC dX11_bookErrors_29 1 rfl rfl ?_
        refine J_get (v := .ref (m 1)) hC wu_X11 rfl dX11_bookErrors_30 0 0 (by decide) wf_X11_7 rfl rfl ?_
        refine J_iload_n hC dX11_bookErrors_33 0 rfl rfl ?_
        refine J_iconst (v := 0) hC dX11_bookErrors_34 rfl ?_
        refine J_iadd (v := nI (72 + 5 * i)) hC dX11_bookErrors_35 (Int32.add_zero _) ?_
        refine J_iald (i := 72 + 5 * i) (v := M 0 (72 + 5 * i)) hC dX11_bookErrors_36 1 rfl (by omega) (by decide) rfl ?_
        refine J_aload_n hC dX11_bookErrors_37 1 rfl rfl ?_
        refine J_get (v := .ref (m 1)) hC wu_X11 rfl dX11_bookErrors_38 0 0 (by decide) wf_X11_7 rfl rfl ?_
        refine J_iload_n hC dX11_bookErrors_41 0 rfl rfl ?_
        refine J_iconst (v := 1) hC dX11_bookErrors_42 rfl ?_
        refine J_iadd (v := nI (73 + 5 * i)) hC dX11_bookErrors_43 ((nI_add (72 + 5 * i) 1).trans (congrArg nI (by omega))) ?_
        refine J_iald (i := 73 + 5 * i) (v := M 0 (73 + 5 * i)) hC dX11_bookErrors_44 1 rfl (by omega) (by decide) rfl ?_
        refine J_callSi hC dX11_bookErrors_45 wl_X11_73 wi_X11 yi_X11_find (mdl0_ir (c_X11_find _ G (m 1) (M 0) bc (M 0 (72 + 5 * i)) (M 0 (73 + 5 * i)) (hbc) (by omega))) rfl rfl ⟨Nat.le_of_ble_eq_true rfl, Nat.le_of_ble_eq_true rfl⟩ (Nat.le_of_ble_eq_true rfl) (Nat.le_of_ble_eq_true rfl) (Nat.le_of_ble_eq_true rfl) (fun r u h_45 => ?_)
        subst h_45
        rcases m_find_cases (M 0) (M 0 (72 + 5 * i)) (M 0 (73 + 5 * i)) bc with p_45 | ⟨k_45, hk_45, p_45, -, -⟩
        · refine J_topi p_45 ?_
          refine J_iconst (v := (-1)) hC dX11_bookErrors_48 rfl ?_
          refine J_ic_ne (tgt := 55) hC dX11_bookErrors_49 (by decide) (fun c => absurd (by decide) c) (fun _ => ?_)
          refine J_iinc hC [(1, .int (acc + 1)), (3, .int (nI (72 + 5 * i))), (0, .ref (m 0)), (2, .int (nI i))] dX11_bookErrors_52 2 rfl (i_inc (by decide +kernel)) (by decide) rfl ?_
          refine J_iload_n hC dX11_bookErrors_55 0 rfl rfl ?_
          refine J_aload_n hC dX11_bookErrors_56 2 rfl rfl ?_
          refine J_iload_n hC dX11_bookErrors_57 3 rfl rfl ?_
          refine J_callVi hC dX11_bookErrors_58 wl_X11_306 yi_X11_alikeBehind (c_X11_alikeBehind _ G m (us M 8 2 0) bc i (hbc) (by omega) (by omega)) rfl rfl 0 11 rfl rfl ⟨Nat.le_of_ble_eq_true rfl, Nat.le_of_ble_eq_true rfl⟩ (Nat.le_of_ble_eq_true rfl) (Nat.le_of_ble_eq_true rfl) (Nat.le_of_ble_eq_true rfl) (fun r u h_58 => ?_)
          subst h_58
          refine J_iadd (v := (acc + 1) + (m_alike (M 0) i bc)) hC dX11_bookErrors_61 rfl ?_
          refine J_istore_n hC [(1, .int ((acc + 1) + (m_alike (M 0) i bc))), (3, .int (nI (72 + 5 * i))), (0, .ref (m 0)), (2, .int (nI i))] dX11_bookErrors_62 rfl (by decide) rfl ?_
          refine J_iinc hC [(2, .int (nI (i + 1))), (1, .int ((acc + 1) + (m_alike (M 0) i bc))), (3, .int (nI (72 + 5 * i))), (0, .ref (m 0))] dX11_bookErrors_63 3 rfl (nI_inc _) (by decide) rfl ?_
          refine J_goto (tgt := 9) hC dX11_bookErrors_66 (by decide) ?_
          refine J_lv (lv' := [(0, .ref (m 0)), (1, .int ((acc + 1) + (m_alike (M 0) i bc))), (2, .int (nI (i + 1)))]) [3, 1, 0] rfl ?_
          exact ih (i + 1) ((acc + 1) + (m_alike (M 0) i bc)) (by omega) (hI.trans ((fo_step c_17).trans (congrArg _ (by rw [if_pos p_45])))) (by omega)
        · refine J_topi p_45 ?_
          refine J_iconst (v := (-1)) hC dX11_bookErrors_48 rfl ?_
          refine J_ic_ne (tgt := 55) hC dX11_bookErrors_49 (by decide) (fun _ => ?_) (fun c => absurd c (nI_ne_m1 (by omega)))
          refine J_iload_n hC dX11_bookErrors_55 2 rfl rfl ?_
          refine J_aload_n hC dX11_bookErrors_56 1 rfl rfl ?_
          refine J_iload_n hC dX11_bookErrors_57 3 rfl rfl ?_
          refine J_callVi hC dX11_bookErrors_58 wl_X11_306 yi_X11_alikeBehind (c_X11_alikeBehind _ G m (us M 8 2 0) bc i (hbc) (by omega) (by omega)) rfl rfl 0 11 rfl rfl ⟨Nat.le_of_ble_eq_true rfl, Nat.le_of_ble_eq_true rfl⟩ (Nat.le_of_ble_eq_true rfl) (Nat.le_of_ble_eq_true rfl) (Nat.le_of_ble_eq_true rfl) (fun r u h_58 => ?_)
          subst h_58
          refine J_iadd (v := acc + (m_alike (M 0) i bc)) hC dX11_bookErrors_61 rfl ?_
          refine J_istore_n hC [(1, .int (acc + (m_alike (M 0) i bc))), (3, .int (nI (72 + 5 * i))), (0, .ref (m 0)), (2, .int (nI i))] dX11_bookErrors_62 rfl (by decide) rfl ?_
          refine J_iinc hC [(2, .int (nI (i + 1))), (1, .int (acc + (m_alike (M 0) i bc))), (3, .int (nI (72 + 5 * i))), (0, .ref (m 0))] dX11_bookErrors_63 3 rfl (nI_inc _) (by decide) rfl ?_
          refine J_goto (tgt := 9) hC dX11_bookErrors_66 (by decide) ?_
          refine J_lv (lv' := [(0, .ref (m 0)), (1, .int (acc + (m_alike (M 0) i bc))), (2, .int (nI (i + 1)))]) [3, 1, 0] rfl ?_
          exact ih (i + 1) (acc + (m_alike (M 0) i bc)) (by omega) (hI.trans ((fo_step c_17).trans (congrArg _ (by rw [if_neg (by rw [p_45]; exact nI_ne_m1 (by omega))])))) (by omega)
  refine J_aload_n hC dX11_bookErrors_0 0 rfl rfl ?_
  refine J_iconst (v := 0) hC dX11_bookErrors_1 rfl ?_
  refine J_put (ws' := mdW G m (us M 8 2 0)) hC wu_X11 rfl tyX11_ok nmX11 dX11_bookErrors_2 0 8 (by decide) wf_X11_66 rfl rfl (Nat.le_of_ble_eq_true rfl) rfl rfl rfl ?_
  refine J_iconst (v := 0) hC dX11_bookErrors_5 rfl ?_
  refine J_istore_n hC [(1, .int 0), (0, .ref (m 0))] dX11_bookErrors_6 rfl (by decide) rfl ?_
  refine J_iconst (v := 0) hC dX11_bookErrors_7 rfl ?_
  refine J_istore_n hC [(2, .int 0), (1, .int 0), (0, .ref (m 0))] dX11_bookErrors_8 rfl (by decide) rfl ?_
  refine J_lv (lv' := [(0, .ref (m 0)), (1, .int 0), (2, .int 0)]) [2, 1, 0] rfl ?_
  exact (key _) 0 0 (by omega) (rfl) (Nat.lt_succ_self _)

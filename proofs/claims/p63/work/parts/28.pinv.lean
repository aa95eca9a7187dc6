section PIS
variable {f : RT} {il : Nat} {t : PS RT}
theorem PE_nn (h : t.2.1 ≤ il) : (p_nn f il t).2.1 ≤ il := PE_nxt (PE_chk (PE_chk (PE_chk h)))
theorem PE_vh (h : t.2.1 ≤ il) : (p_vh f il t).2.1 ≤ il := PE_nxt (PE_chk (PE_chk h))
theorem PE_wh (h : t.2.1 ≤ il) : (p_wh f il t).2.1 ≤ il := PE_nxt (PE_chk h)
theorem PM_nn (h : t.2.1 ≤ il) : t.2.1 ≤ (p_nn f il t).2.1 := Nat.le_trans PM_chk (Nat.le_trans PM_chk (Nat.le_trans PM_chk (PM_nxt (PE_chk (PE_chk (PE_chk h))))))
theorem PM_vh (h : t.2.1 ≤ il) : t.2.1 ≤ (p_vh f il t).2.1 := Nat.le_trans PM_chk (Nat.le_trans PM_chk (PM_nxt (PE_chk (PE_chk h))))
theorem PM_wh (h : t.2.1 ≤ il) : t.2.1 ≤ (p_wh f il t).2.1 := Nat.le_trans PM_chk (PM_nxt (PE_chk h))
theorem p_wd_g : (p_wd f il t).1 = t.1 := p_chk_g _ _ _ _ _
theorem p_nn_g : (p_nn f il t).1 = t.1 := (p_nxt_g _ _ _).trans ((p_chk_g _ _ _ _ _).trans ((p_chk_g _ _ _ _ _).trans p_wd_g))
theorem p_vh_g : (p_vh f il t).1 = t.1 := (p_nxt_g _ _ _).trans ((p_chk_g _ _ _ _ _).trans p_wd_g)
theorem p_wh_g : (p_wh f il t).1 = t.1 := (p_nxt_g _ _ _).trans (p_chk_g _ _ _ _ _)
theorem p_nn_l (h : (p_nn f il t).2.2.1 = 0) : t.2.2.1 = 0 ∧ tK f il t.2.1 = 3 ∧ ¬ p_nm f il t = -1 ∧ p_free t.1 (p_nm f il t) ∧ p_nnV f il t = p_nm f il t ∧ p_nn f il t = (t.1, tE f il t.2.1, t.2.2.1, t.2.2.2) := by
  obtain ⟨a1, a2, a3⟩ := p_chk_l (by decide) (p_nxt_l h)
  obtain ⟨b1, b2, b3⟩ := p_chk_l (by decide) a1
  obtain ⟨c1, c2, c3⟩ := p_chk_l (by decide) b1
  have v : p_nnV f il t = p_nm f il t := by rw [p_nnV, if_pos b1, show p_wd f il t = t from c3]
  rw [show p_nn2 f il t = t from b3.trans c3] at a2
  refine ⟨c1, c2, by rw [← v]; exact b2, by rw [← v]; exact a2, v, ?_⟩
  rw [p_nn, show p_nn3 f il t = t from a3.trans (b3.trans c3), p_nxt_pos c1]
theorem p_vh_l (h : (p_vh f il t).2.2.1 = 0) : t.2.2.1 = 0 ∧ tK f il t.2.1 = 3 ∧ ¬ m_vn t.1 (p_nm f il t) (m_vc t.1) = -1 ∧ p_vhV f il t = m_vn t.1 (p_nm f il t) (m_vc t.1) ∧ p_vh f il t = (t.1, tE f il t.2.1, t.2.2.1, t.2.2.2) := by
  obtain ⟨b1, b2, b3⟩ := p_chk_l (by decide) (p_nxt_l h)
  obtain ⟨c1, c2, c3⟩ := p_chk_l (by decide) b1
  have v : p_vhW f il t = m_vn t.1 (p_nm f il t) (m_vc t.1) := by rw [p_vhW, if_pos b1, show p_wd f il t = t from c3]
  refine ⟨c1, c2, by rw [← v]; exact b2, (if_pos h).trans v, ?_⟩
  rw [p_vh, show p_vh1 f il t = t from b3.trans c3, p_nxt_pos c1]
theorem p_wh_l (h : (p_wh f il t).2.2.1 = 0) : t.2.2.1 = 0 ∧ ¬ p_whV f il t = -1 ∧ p_wh f il t = (t.1, tE f il t.2.1, t.2.2.1, t.2.2.2) := by
  obtain ⟨b1, b2, b3⟩ := p_chk_l (by decide) (p_nxt_l h)
  exact ⟨b1, b2, by rw [p_wh, show p_wh1 f il t = t from b3, p_nxt_pos b1]⟩
end PIS
theorem m_vn_cases {g : RT} {nm : Int32} {vc : Nat} (h : ¬ m_vn g nm vc = -1) : ∃ k, k < vc ∧ m_vn g nm vc = nI k := by
  rcases m_named_cases g 24 3 nm vc with q | q
  · exact absurd q h
  · exact q
theorem lt_of_nI {v n : Nat} {x : Int32} (e : x = nI v) (hv : v < 2 ^ 31) (hn : n < 2 ^ 31) (h : x < nI n) : v < n := by
  rw [e] at h
  exact (nI_ltI hv hn).mp h
theorem q_run_all {P : Int32 → Bool} {f : RT} : ∀ (k i j : Nat), i ≤ j → j < q_run P f k i → P (f j) = true
  | 0, i, j, h1, h2 => by rw [q_run] at h2; omega
  | k + 1, i, j, h1, h2 => by
    rw [q_run] at h2
    split at h2
    · rename_i hp
      by_cases e : j = i
      · rw [e]; exact hp
      · exact q_run_all k (i + 1) j (by omega) h2
    · omega
theorem dig_nat {x : Int32} (h : q_dig x) : ∃ d, d ≤ 9 ∧ x = nI (48 + d) := by
  have h0 : ¬ x < 0 := fun q => h.1 (Int32.lt_trans q (by decide))
  obtain ⟨j, hj, rfl⟩ := nI_of h0
  have h1 : 48 ≤ j := Nat.le_of_not_lt fun q => h.1 ((nI_ltI (a := j) (b := 48) hj (by decide)).mpr q)
  have h2 : j ≤ 57 := Nat.le_of_not_lt fun q => h.2 ((nI_ltI (a := 57) (b := j) (by decide) hj).mpr q)
  exact ⟨j - 48, by omega, by rw [show 48 + (j - 48) = j by omega]⟩
theorem q_dv_nat {f : RT} {j n d : Nat} (hn : n ≤ 999999999) (hd : d ≤ 9) (e : f j = nI (48 + d)) : q_dv f j (nI n) = if n ≤ 99999999 then nI (10 * n + d) else nI n := by
  rw [q_dv, show (99999999 : Int32) = nI 99999999 from rfl]
  by_cases h : n ≤ 99999999
  · rw [if_pos ((nI_leI (b := 99999999) (by omega) (by omega)).mpr h), if_pos h, e, show (10 : Int32) * nI n = nI (10 * n) from pk_mul 10 n, nI_add, show (48 : Int32) = nI 48 from rfl, pk_sub (by omega), show 10 * n + (48 + d) - 48 = 10 * n + d by omega]
  · rw [if_neg (fun q => h ((nI_leI (b := 99999999) (by omega) (by omega)).mp q)), if_neg h]
theorem q_dv_run {f : RT} : ∀ (k i n : Nat), (∀ j, i ≤ j → j < i + k → q_dig (f j)) → n ≤ 999999999 → ∃ m, m ≤ 999999999 ∧ fo (q_dv f) i k (nI n) = nI m
  | 0, _, n, _, hn => ⟨n, hn, rfl⟩
  | k + 1, i, n, hd, hn => by
    obtain ⟨d, h1, h2⟩ := dig_nat (hd i (Nat.le_refl _) (by omega))
    rw [fo, q_dv_nat hn h1 h2]
    split
    · exact q_dv_run k (i + 1) _ (fun j a b => hd j (by omega) (by omega)) (by omega)
    · exact q_dv_run k (i + 1) _ (fun j a b => hd j (by omega) (by omega)) hn
/-- the digits of a number's token -/
theorem tok_dig {f : RT} {il e : Nat} (h : tK f il e = 2) : ∀ j, tS f il e ≤ j → j < tE f il e → q_dig (f j) := by
  intro j h1 h2
  rw [tE, if_neg (by omega), if_neg (by omega), if_pos h] at h2
  exact of_decide_eq_true (q_run_all _ _ j h1 h2)
theorem tV_nat (f : RT) (il e : Nat) : ∃ m, m ≤ 999999999 ∧ tV f il e = nI m := by
  unfold tV
  split
  · rename_i h
    exact q_dv_run _ _ 0 (fun j h1 h2 => tok_dig h j h1 (by omega)) (by omega)
  · exact ⟨0, by omega, rfl⟩

section PI2
variable {f : RT} {il : Nat} {t : PS RT}
theorem p_v5_g : (p_v5 f il t).1 = t.1 := by rw [p_v5, p_fin_g, p_v4, p_num_g, p_v3, p_num_g, p_v2, p_nn_g, p_v1, p_nxt_g, p_chk_g]
theorem p_v5_l (h : (p_v5 f il t).2.2.1 = 0) : t.2.2.1 = 0 ∧ t.1 6 < 6 ∧ (p_v5 f il t).1 = t.1 := by
  have h5 := h
  rw [p_v5] at h5
  have l4 := (p_fin_l h5).1
  rw [p_v4] at l4
  have l3 := (p_num_l l4).1
  rw [p_v3] at l3
  have l2 := (p_num_l l3).1
  rw [p_v2] at l2
  have l1 := (p_nn_l l2).1
  rw [p_v1] at l1
  obtain ⟨a1, a2, -⟩ := p_chk_l (by decide) (p_nxt_l l1)
  exact ⟨a1, a2, p_v5_g⟩
theorem p_f7_g : (p_f7 f il t).1 = t.1 := by rw [p_f7, p_fin_g, p_f6, p_num_g, p_f5, p_num_g, p_f4, p_num_g, p_f3, p_vh_g, p_f2, p_nn_g, p_f1, p_nxt_g, p_chk_g]
theorem p_f7_l (h : (p_f7 f il t).2.2.1 = 0) : t.2.2.1 = 0 ∧ t.1 7 < 6 ∧ (p_f7 f il t).1 = t.1 := by
  have h5 := h
  rw [p_f7] at h5
  have l6 := (p_fin_l h5).1
  rw [p_f6] at l6
  have l5 := (p_num_l l6).1
  rw [p_f5] at l5
  have l4 := (p_num_l l5).1
  rw [p_f4] at l4
  have l3 := (p_num_l l4).1
  rw [p_f3] at l3
  have l2 := (p_vh_l l3).1
  rw [p_f2] at l2
  have l1 := (p_nn_l l2).1
  rw [p_f1] at l1
  obtain ⟨a1, a2, -⟩ := p_chk_l (by decide) (p_nxt_l l1)
  exact ⟨a1, a2, p_f7_g⟩
theorem p_s5_g : (p_s5 f il t).1 = t.1 := by rw [p_s5, p_sc, p_chk_g, p_s4, p_wh_g, p_s3, p_num_g, p_s2, p_vh_g, p_s1, p_nxt_g]
theorem p_s5_l (h : (p_s5 f il t).2.2.1 = 0) : t.2.2.1 = 0 ∧ (p_s1 f il t).2.2.1 = 0 ∧ ¬ m_vn t.1 (p_nm f il (p_s1 f il t)) (m_vc t.1) = -1 ∧ p_vhV f il (p_s1 f il t) = m_vn t.1 (p_nm f il (p_s1 f il t)) (m_vc t.1) ∧ ¬ p_whV f il (p_s3 f il t) = -1 := by
  rw [p_s5, p_sc] at h
  have l4 := (p_chk_l (by decide) h).1
  rw [p_s4] at l4
  have lw := p_wh_l l4
  have l3 := lw.1
  rw [p_s3] at l3
  have l2 := (p_num_l l3).1
  rw [p_s2] at l2
  have lv := p_vh_l l2
  have e1 : (p_s1 f il t).1 = t.1 := by rw [p_s1, p_nxt_g]
  rw [e1] at lv
  have l1 := lv.1
  have l0 := l1
  rw [p_s1] at l0
  exact ⟨p_nxt_l l0, l1, lv.2.2.1, lv.2.2.2.1, lw.2.1⟩
theorem p_s6_l (h : (p_s6 f il t).2.2.1 = 0) : t.2.2.1 = 0 ∧ (p_s6 f il t).1 = t.1 ∧ (p_s5 f il t).1 = t.1 ∧ m_why t.1 (p_vhV f il (p_s1 f il t)) (p_lkV f il 0 9999 (p_s2 f il t)) (m_bc t.1) = 0 ∧ ¬ m_vn t.1 (p_nm f il (p_s1 f il t)) (m_vc t.1) = -1 ∧ p_vhV f il (p_s1 f il t) = m_vn t.1 (p_nm f il (p_s1 f il t)) (m_vc t.1) ∧ ¬ p_whV f il (p_s3 f il t) = -1 ∧ (p_s5 f il t).2.2.1 = 0 := by
  rw [p_s6] at h
  obtain ⟨a1, a2, -⟩ := p_chk_l (by decide) h
  rw [p_s5_g] at a2
  obtain ⟨b1, b2, b3, b4, b5⟩ := p_s5_l a1
  exact ⟨b1, by rw [p_s6, p_chk_g, p_s5_g], p_s5_g, a2, b3, b4, b5, a1⟩
theorem p_r3_g : (p_r3 f il t).1 = t.1 := by rw [p_r3, p_chk_g, p_r2, p_chk_g, p_r1, p_nxt_g]
theorem p_r3_l (h : (p_r3 f il t).2.2.1 = 0) : t.2.2.1 = 0 ∧ (p_r3 f il t).1 = t.1 ∧ p_rV f il t = tV f il (p_r3 f il t).2.1 ∧ p_rV f il t < nI ((m_bc t.1 + 4 - 1) / 4) ∧ tK f il (p_r1 f il t).2.1 = 2 := by
  have ev : p_rV f il t = tV f il (p_r3 f il t).2.1 := if_pos h
  have h3 := h
  rw [p_r3] at h3
  obtain ⟨b1, b2, b3⟩ := p_chk_l (by decide) h3
  have e3 : (p_r3 f il t).2.1 = (p_r2 f il t).2.1 := by rw [p_r3, p_chk_e]
  have e2 : (p_r2 f il t).1 = t.1 := by rw [p_r2, p_chk_g, p_r1, p_nxt_g]
  have l2 := b1
  rw [p_r2] at l2
  obtain ⟨c1, c2, c3⟩ := p_chk_l (by decide) l2
  have l1 := c1
  rw [p_r1] at l1
  refine ⟨p_nxt_l l1, p_r3_g, ev, ?_, c2⟩
  rw [ev, e3, ← e2]
  exact b2
theorem p_rV_nat : ∃ n, n ≤ 999999999 ∧ p_rV f il t = nI n := by
  unfold p_rV
  split
  · exact tV_nat _ _ _
  · exact ⟨0, by omega, rfl⟩
theorem p_r5_g : (p_r5 f il t).1 = t.1 := by rw [p_r5, p_fin_g, p_nxt_g, p_r4, p_chk_g, p_r3_g]
theorem p_r5_l (h : (p_r5 f il t).2.2.1 = 0) : (p_r3 f il t).2.2.1 = 0 ∧ (p_r5 f il t).1 = t.1 ∧ m_refund t.1 (cl (p_rV f il t)) (m_bc t.1) ≤ t.1 4 ∧ (p_r4 f il t).2.2.1 = 0 := by
  rw [p_r5] at h
  have l4 := p_nxt_l (p_fin_l h).1
  have l3 := l4
  rw [p_r4] at l3
  obtain ⟨a1, a2, -⟩ := p_chk_l (by decide) l3
  rw [p_r3_g] at a2
  exact ⟨a1, p_r5_g, a2, l4⟩
theorem p_p2_g : (p_p2 f il t).1 = t.1 := by rw [p_p2, p_fin_g, p_num_g, p_p1, p_nxt_g]
theorem adv_go (h : t.2.1 ≤ il) (hk : ¬ tK f il t.2.1 = 0) {u : PS RT} (e : u.2.1 = t.2.1) (q : (p_nxt f il u).2.2.1 = 0) : t.2.1 < (p_nxt f il u).2.1 := by
  rw [p_nxt_pos (p_nxt_l q), e]
  exact tE_adv f il _ h hk
theorem adv_rv (h : t.2.1 ≤ il) (hk : ¬ tK f il t.2.1 = 0) (hc : (p_rv f il t).2.2.1 = 0) : t.2.1 < (p_rv f il t).2.1 := by
  have key : (p_v5 f il t).2.2.1 = 0 → t.2.1 < (p_v5 f il t).2.1 := by
    intro q
    rw [p_v5] at q ⊢
    have l4 := (p_fin_l q).1
    have l3 := l4
    rw [p_v4] at l3
    have l2 := (p_num_l l3).1
    rw [p_v3] at l2
    have l1 := (p_num_l l2).1
    rw [p_v2] at l1
    have l0 := (p_nn_l l1).1
    have e1 : (p_v1 f il t).2.1 ≤ il := by rw [p_v1]; exact PE_nxt (PE_chk h)
    have m1 : t.2.1 < (p_v1 f il t).2.1 := by rw [p_v1] at l0 ⊢; exact adv_go h hk (p_chk_e _ _ _ _ _) l0
    have e2 : (p_v2 f il t).2.1 ≤ il := by rw [p_v2]; exact PE_nn e1
    have m2 : (p_v1 f il t).2.1 ≤ (p_v2 f il t).2.1 := by rw [p_v2]; exact PM_nn e1
    have e3 : (p_v3 f il t).2.1 ≤ il := by rw [p_v3]; exact PE_num e2
    have m3 : (p_v2 f il t).2.1 ≤ (p_v3 f il t).2.1 := by rw [p_v3]; exact PM_num e2
    have e4 : (p_v4 f il t).2.1 ≤ il := by rw [p_v4]; exact PE_num e3
    have m4 : (p_v3 f il t).2.1 ≤ (p_v4 f il t).2.1 := by rw [p_v4]; exact PM_num e3
    have m5 := PM_fin (f := f) e4
    omega
  by_cases q : (p_v5 f il t).2.2.1 = 0
  · rw [p_rv, if_pos q]; dsimp only; exact key q
  · rw [p_rv, if_neg q] at hc; exact absurd hc q
theorem adv_rf (h : t.2.1 ≤ il) (hk : ¬ tK f il t.2.1 = 0) (hc : (p_rf f il t).2.2.1 = 0) : t.2.1 < (p_rf f il t).2.1 := by
  have key : (p_f7 f il t).2.2.1 = 0 → t.2.1 < (p_f7 f il t).2.1 := by
    intro q
    rw [p_f7] at q ⊢
    have l6 := (p_fin_l q).1
    rw [p_f6] at l6
    have l5 := (p_num_l l6).1
    rw [p_f5] at l5
    have l4 := (p_num_l l5).1
    rw [p_f4] at l4
    have l3 := (p_num_l l4).1
    rw [p_f3] at l3
    have l2 := (p_vh_l l3).1
    rw [p_f2] at l2
    have l0 := (p_nn_l l2).1
    have e1 : (p_f1 f il t).2.1 ≤ il := by rw [p_f1]; exact PE_nxt (PE_chk h)
    have m1 : t.2.1 < (p_f1 f il t).2.1 := by rw [p_f1] at l0 ⊢; exact adv_go h hk (p_chk_e _ _ _ _ _) l0
    have e2 : (p_f2 f il t).2.1 ≤ il := by rw [p_f2]; exact PE_nn e1
    have m2 : (p_f1 f il t).2.1 ≤ (p_f2 f il t).2.1 := by rw [p_f2]; exact PM_nn e1
    have e3 : (p_f3 f il t).2.1 ≤ il := by rw [p_f3]; exact PE_vh e2
    have m3 : (p_f2 f il t).2.1 ≤ (p_f3 f il t).2.1 := by rw [p_f3]; exact PM_vh e2
    have e4 : (p_f4 f il t).2.1 ≤ il := by rw [p_f4]; exact PE_num e3
    have m4 : (p_f3 f il t).2.1 ≤ (p_f4 f il t).2.1 := by rw [p_f4]; exact PM_num e3
    have e5 : (p_f5 f il t).2.1 ≤ il := by rw [p_f5]; exact PE_num e4
    have m5 : (p_f4 f il t).2.1 ≤ (p_f5 f il t).2.1 := by rw [p_f5]; exact PM_num e4
    have e6 : (p_f6 f il t).2.1 ≤ il := by rw [p_f6]; exact PE_num e5
    have m6 : (p_f5 f il t).2.1 ≤ (p_f6 f il t).2.1 := by rw [p_f6]; exact PM_num e5
    have m7 := PM_fin (f := f) e6
    omega
  by_cases q : (p_f7 f il t).2.2.1 = 0
  · rw [p_rf, if_pos q]; dsimp only; exact key q
  · rw [p_rf, if_neg q] at hc; exact absurd hc q
theorem adv_s1 (h : t.2.1 ≤ il) (hk : ¬ tK f il t.2.1 = 0) (l0 : (p_s1 f il t).2.2.1 = 0) : t.2.1 < (p_s1 f il t).2.1 ∧ (p_s1 f il t).2.1 ≤ il := by
  rw [p_s1] at l0 ⊢
  exact ⟨adv_go h hk rfl l0, PE_nxt h⟩
theorem adv_rs (h : t.2.1 ≤ il) (hk : ¬ tK f il t.2.1 = 0) (hc : (p_rs f il t).2.2.1 = 0) : t.2.1 < (p_rs f il t).2.1 := by
  rw [p_rs] at hc ⊢
  have l7 := p_nxt_l hc
  have key : (p_s6 f il t).2.2.1 = 0 → t.2.1 < (p_s6 f il t).2.1 ∧ (p_s6 f il t).2.1 ≤ il := by
    intro q
    obtain ⟨-, -, -, -, -, -, -, l5⟩ := p_s6_l q
    obtain ⟨-, l1, -⟩ := p_s5_l l5
    obtain ⟨m1, e1⟩ := adv_s1 h hk l1
    have e2 : (p_s2 f il t).2.1 ≤ il := by rw [p_s2]; exact PE_vh e1
    have m2 : (p_s1 f il t).2.1 ≤ (p_s2 f il t).2.1 := by rw [p_s2]; exact PM_vh e1
    have e3 : (p_s3 f il t).2.1 ≤ il := by rw [p_s3]; exact PE_num e2
    have m3 : (p_s2 f il t).2.1 ≤ (p_s3 f il t).2.1 := by rw [p_s3]; exact PM_num e2
    have e4 : (p_s4 f il t).2.1 ≤ il := by rw [p_s4]; exact PE_wh e3
    have m4 : (p_s3 f il t).2.1 ≤ (p_s4 f il t).2.1 := by rw [p_s4]; exact PM_wh e3
    have e5 : (p_s6 f il t).2.1 = (p_s4 f il t).2.1 := by rw [p_s6, p_chk_e, p_s5, p_sc, p_chk_e]
    omega
  have k7 : t.2.1 < (p_s7 f il t).2.1 ∧ (p_s7 f il t).2.1 ≤ il := by
    by_cases q : (p_s6 f il t).2.2.1 = 0
    · rw [p_s7, if_pos q]; dsimp only; exact key q
    · rw [p_s7, if_neg q] at l7; exact absurd l7 q
  exact Nat.lt_of_lt_of_le k7.1 (PM_nxt k7.2)
theorem adv_rr (h : t.2.1 ≤ il) (hk : ¬ tK f il t.2.1 = 0) (hc : (p_rr f il t).2.2.1 = 0) : t.2.1 < (p_rr f il t).2.1 := by
  have key : (p_r5 f il t).2.2.1 = 0 → t.2.1 < (p_r5 f il t).2.1 := by
    intro q
    obtain ⟨l3, -, -, l4⟩ := p_r5_l q
    rw [p_r3] at l3
    have l2 := (p_chk_l (by decide) l3).1
    rw [p_r2] at l2
    have l1 := (p_chk_l (by decide) l2).1
    have m1 : t.2.1 < (p_r1 f il t).2.1 := by rw [p_r1] at l1 ⊢; exact adv_go h hk rfl l1
    have e1 : (p_r1 f il t).2.1 ≤ il := by rw [p_r1]; exact PE_nxt h
    have e4 : (p_r4 f il t).2.1 = (p_r1 f il t).2.1 := by rw [p_r4, p_chk_e, p_r3, p_chk_e, p_r2, p_chk_e]
    have e5 : (p_r4 f il t).2.1 ≤ il := by omega
    rw [p_r5]
    have m5 := PM_nxt (f := f) e5
    have m6 := PM_fin (f := f) (PE_nxt (f := f) e5)
    omega
  by_cases q : (p_r5 f il t).2.2.1 = 0
  · rw [p_rr, if_pos q]; dsimp only; exact key q
  · rw [p_rr, if_neg q] at hc; exact absurd hc q
theorem adv_rp (h : t.2.1 ≤ il) (hk : ¬ tK f il t.2.1 = 0) (hc : (p_rp f il t).2.2.1 = 0) : t.2.1 < (p_rp f il t).2.1 := by
  have key : (p_p2 f il t).2.2.1 = 0 → t.2.1 < (p_p2 f il t).2.1 := by
    intro q
    rw [p_p2] at q ⊢
    have l1 := (p_num_l (p_fin_l q).1).1
    have m1 : t.2.1 < (p_p1 f il t).2.1 := by rw [p_p1] at l1 ⊢; exact adv_go h hk rfl l1
    have e1 : (p_p1 f il t).2.1 ≤ il := by rw [p_p1]; exact PE_nxt h
    have m2 := PM_num (f := f) (lo := 0) (hi := 200) e1
    have m3 := PM_fin (f := f) (PE_num (f := f) (lo := 0) (hi := 200) e1)
    omega
  by_cases q : (p_p2 f il t).2.2.1 = 0
  · rw [p_rp, if_pos q]; dsimp only; exact key q
  · rw [p_rp, if_neg q] at hc; exact absurd hc q
/-- which statement: by the keyword -/
theorem p_st_cases : (tIs f il t.2.1 12 ∧ p_st f il t = p_rv f il t) ∨ (tIs f il t.2.1 13 ∧ p_st f il t = p_rf f il t) ∨ (tIs f il t.2.1 14 ∧ p_st f il t = p_rs f il t) ∨ (tIs f il t.2.1 18 ∧ p_st f il t = p_rr f il t) ∨ (tIs f il t.2.1 19 ∧ p_st f il t = p_rp f il t) ∨ p_st f il t = p_chk f il False 1 t := by
  by_cases h1 : tIs f il t.2.1 12
  · exact Or.inl ⟨h1, if_pos h1⟩
  refine Or.inr ?_
  by_cases h2 : tIs f il t.2.1 13
  · exact Or.inl ⟨h2, by rw [p_st, if_neg h1, if_pos h2]⟩
  refine Or.inr ?_
  by_cases h3 : tIs f il t.2.1 14
  · exact Or.inl ⟨h3, by rw [p_st, if_neg h1, if_neg h2, if_pos h3]⟩
  refine Or.inr ?_
  by_cases h4 : tIs f il t.2.1 18
  · exact Or.inl ⟨h4, by rw [p_st, if_neg h1, if_neg h2, if_neg h3, if_pos h4]⟩
  refine Or.inr ?_
  by_cases h5 : tIs f il t.2.1 19
  · exact Or.inl ⟨h5, by rw [p_st, if_neg h1, if_neg h2, if_neg h3, if_neg h4, if_pos h5]⟩
  exact Or.inr (by rw [p_st, if_neg h1, if_neg h2, if_neg h3, if_neg h4, if_neg h5])
/-- a statement that is right moves on -/
theorem p_st_adv (h : t.2.1 ≤ il) (hk : ¬ tK f il t.2.1 = 0) (hc : (p_st f il t).2.2.1 = 0) : t.2.1 < (p_st f il t).2.1 := by
  rcases p_st_cases (f := f) (il := il) (t := t) with ⟨-, e⟩ | ⟨-, e⟩ | ⟨-, e⟩ | ⟨-, e⟩ | ⟨-, e⟩ | e
  · rw [e] at hc ⊢; exact adv_rv h hk hc
  · rw [e] at hc ⊢; exact adv_rf h hk hc
  · rw [e] at hc ⊢; exact adv_rs h hk hc
  · rw [e] at hc ⊢; exact adv_rr h hk hc
  · rw [e] at hc ⊢; exact adv_rp h hk hc
  · rw [e] at hc; exact absurd (p_chk_l (by decide) hc).2.1 id
theorem p_lp_go {n : Nat} (hn : 0 < n) (hc : t.2.2.1 = 0) (hk : ¬ tK f il t.2.1 = 0) : p_lp f il n t = p_lp f il (n - 1) (p_st f il t) := by
  obtain ⟨k, rfl⟩ : ∃ k, n = k + 1 := ⟨n - 1, by omega⟩
  exact if_pos ⟨hc, hk⟩
theorem p_lp_end {n : Nat} (h : ¬ t.2.2.1 = 0 ∨ tK f il t.2.1 = 0) : p_lp f il n t = t := by
  cases n with
  | zero => rfl
  | succ n => exact if_neg (fun q => h.elim (fun z => z q.1) q.2)
end PI2


/-! WHAT THE PARSER KEEPS -/
def GI (g : RT) : Prop := mI g (m_bc g) (m_vc g) (m_fc g) (m_mc g)
theorem GI_of {g : RT} {bc vc fc mc : Nat} (H : mI g bc vc fc mc) : GI g := by
  unfold GI
  rw [m_bc_eq H.1.1 H.1.2, m_vc_eq H.2.1.1 H.2.1.2, m_fc_eq H.2.2.1.1 H.2.2.1.2, m_mc_eq H.2.2.2.1.1 H.2.2.2.1.2]
  exact H
def PI (il : Nat) (t : PS RT) : Prop := t.2.1 ≤ il ∧ (t.2.2.1 = 0 → GI t.1)
section PIS
variable {f : RT} {il : Nat} {t : PS RT}
theorem PI_chk {P : Prop} [Decidable P] {w : Int32} (hw : ¬ w = 0) (h : PI il t) : PI il (p_chk f il P w t) :=
  ⟨PE_chk h.1, fun hc => by rw [p_chk_g]; exact h.2 (p_chk_l hw hc).1⟩
theorem PI_nxt (h : PI il t) : PI il (p_nxt f il t) := ⟨PE_nxt h.1, fun hc => by rw [p_nxt_g]; exact h.2 (p_nxt_l hc)⟩
theorem PI_lk {lo hi : Int32} (h : PI il t) : PI il (p_lk f il lo hi t) := PI_chk (by decide) (PI_chk (by decide) h)
theorem PI_num {lo hi : Int32} (h : PI il t) : PI il (p_num f il lo hi t) := PI_nxt (PI_lk h)
theorem PI_sc (h : PI il t) : PI il (p_sc f il t) := PI_chk (by decide) h
theorem PI_fin (h : PI il t) : PI il (p_fin f il t) := PI_nxt (PI_sc h)
theorem PI_wd (h : PI il t) : PI il (p_wd f il t) := PI_chk (by decide) h
theorem PI_nn (h : PI il t) : PI il (p_nn f il t) := PI_nxt (PI_chk (by decide) (PI_chk (by decide) (PI_wd h)))
theorem PI_vh (h : PI il t) : PI il (p_vh f il t) := PI_nxt (PI_chk (by decide) (PI_wd h))
theorem PI_wh (h : PI il t) : PI il (p_wh f il t) := PI_nxt (PI_chk (by decide) h)
theorem PE_nn (h : t.2.1 ≤ il) : (p_nn f il t).2.1 ≤ il := PE_nxt (PE_chk (PE_chk (PE_chk h)))
theorem PE_vh (h : t.2.1 ≤ il) : (p_vh f il t).2.1 ≤ il := PE_nxt (PE_chk (PE_chk h))
theorem PE_wh (h : t.2.1 ≤ il) : (p_wh f il t).2.1 ≤ il := PE_nxt (PE_chk h)
theorem PM_nn (h : t.2.1 ≤ il) : t.2.1 ≤ (p_nn f il t).2.1 := Nat.le_trans PM_chk (Nat.le_trans PM_chk (Nat.le_trans PM_chk (PM_nxt (PE_chk (PE_chk (PE_chk h))))))
theorem PM_vh (h : t.2.1 ≤ il) : t.2.1 ≤ (p_vh f il t).2.1 := Nat.le_trans PM_chk (Nat.le_trans PM_chk (PM_nxt (PE_chk (PE_chk h))))
theorem PM_wh (h : t.2.1 ≤ il) : t.2.1 ≤ (p_wh f il t).2.1 := Nat.le_trans PM_chk (PM_nxt (PE_chk h))
theorem p_wd_g : (p_wd f il t).1 = t.1 := p_chk_g _ _ _ _ _
theorem p_nn_g : (p_nn f il t).1 = t.1 := (p_nxt_g _ _ _).trans ((p_chk_g _ _ _ _ _).trans ((p_chk_g _ _ _ _ _).trans p_wd_g))
theorem p_vh_g : (p_vh f il t).1 = t.1 := (p_nxt_g _ _ _).trans ((p_chk_g _ _ _ _ _).trans p_wd_g)
theorem p_wh_g : (p_wh f il t).1 = t.1 := (p_nxt_g _ _ _).trans (p_chk_g _ _ _ _ _)
theorem p_nn_l (h : (p_nn f il t).2.2.1 = 0) : t.2.2.1 = 0 ∧ tK f il t.2.1 = 3 ∧ ¬ p_nm f il t = -1 ∧ p_free t.1 (p_nm f il t) ∧ p_nnV f il t = p_nm f il t ∧ p_nn f il t = (t.1, tE f il t.2.1, t.2.2.1, t.2.2.2) := by
  obtain ⟨a1, a2, a3⟩ := p_chk_l (by decide) (p_nxt_l h)
  obtain ⟨b1, b2, b3⟩ := p_chk_l (by decide) a1
  obtain ⟨c1, c2, c3⟩ := p_chk_l (by decide) b1
  have v : p_nnV f il t = p_nm f il t := by rw [p_nnV, if_pos b1, show p_wd f il t = t from c3]
  rw [show p_nn2 f il t = t from b3.trans c3] at a2
  refine ⟨c1, c2, by rw [← v]; exact b2, by rw [← v]; exact a2, v, ?_⟩
  rw [p_nn, show p_nn3 f il t = t from a3.trans (b3.trans c3), p_nxt_pos c1]
theorem p_vh_l (h : (p_vh f il t).2.2.1 = 0) : t.2.2.1 = 0 ∧ tK f il t.2.1 = 3 ∧ ¬ m_vn t.1 (p_nm f il t) (m_vc t.1) = -1 ∧ p_vhV f il t = m_vn t.1 (p_nm f il t) (m_vc t.1) ∧ p_vh f il t = (t.1, tE f il t.2.1, t.2.2.1, t.2.2.2) := by
  obtain ⟨b1, b2, b3⟩ := p_chk_l (by decide) (p_nxt_l h)
  obtain ⟨c1, c2, c3⟩ := p_chk_l (by decide) b1
  have v : p_vhW f il t = m_vn t.1 (p_nm f il t) (m_vc t.1) := by rw [p_vhW, if_pos b1, show p_wd f il t = t from c3]
  refine ⟨c1, c2, by rw [← v]; exact b2, (if_pos h).trans v, ?_⟩
  rw [p_vh, show p_vh1 f il t = t from b3.trans c3, p_nxt_pos c1]
theorem p_wh_l (h : (p_wh f il t).2.2.1 = 0) : t.2.2.1 = 0 ∧ ¬ p_whV f il t = -1 ∧ p_wh f il t = (t.1, tE f il t.2.1, t.2.2.1, t.2.2.2) := by
  obtain ⟨b1, b2, b3⟩ := p_chk_l (by decide) (p_nxt_l h)
  exact ⟨b1, b2, by rw [p_wh, show p_wh1 f il t = t from b3, p_nxt_pos b1]⟩
end PIS
theorem m_vn_cases {g : RT} {nm : Int32} {vc : Nat} (h : ¬ m_vn g nm vc = -1) : ∃ k, k < vc ∧ m_vn g nm vc = nI k := by
  rcases m_named_cases g 24 3 nm vc with q | q
  · exact absurd q h
  · exact q
theorem lt_of_nI {v n : Nat} {x : Int32} (e : x = nI v) (hv : v < 2 ^ 31) (hn : n < 2 ^ 31) (h : x < nI n) : v < n := by
  rw [e] at h
  exact (nI_ltI hv hn).mp h
theorem mI.addV {g : RT} {bc vc fc mc : Nat} (H : mI g bc vc fc mc) (hv : vc < 6) (nm pe tr : Int32) : mI (m_addV g nm pe tr vc) bc (vc + 1) fc mc := by
  obtain ⟨⟨h1, h2⟩, ⟨h3, h4⟩, ⟨h5, h6⟩, ⟨h7, h8⟩, h9, h10, ⟨a, b, c, o1, o2, o3, o4, o5, o6, o7⟩, ⟨s, s1, s2⟩⟩ := H
  have e : ∀ j, j ≠ 6 → j < 24 ∨ 42 ≤ j → m_addV g nm pe tr vc j = g j := fun j q1 q2 => by
    rw [m_addV, pk_un q1, pk_un (by omega), pk_un (by omega), pk_un (by omega)]
  refine ⟨⟨(e 8 (by omega) (by omega)).trans h1, h2⟩, ⟨by rw [m_addV, pk_us], by omega⟩, ⟨(e 7 (by omega) (by omega)).trans h5, h6⟩, ⟨(e 9 (by omega) (by omega)).trans h7, h8⟩, fun k hk => ?_, fun f hf => ?_, ⟨a, b, c, o1, o2, o3, o4, (e 1 (by omega) (by omega)).trans o5, (e 2 (by omega) (by omega)).trans o6, (e 3 (by omega) (by omega)).trans o7⟩, ⟨s, s1, (e 0 (by omega) (by omega)).trans s2⟩⟩
  · obtain ⟨w, w1, w2⟩ := h9 k hk
    exact ⟨w, by omega, (e _ (by omega) (by omega)).trans w2⟩
  · obtain ⟨p, p1, p2, p3⟩ := h10 f hf
    exact ⟨p, p1, p2, (e _ (by omega) (by omega)).trans p3⟩
theorem mI.addF {g : RT} {bc vc fc mc : Nat} (H : mI g bc vc fc mc) (hf : fc < 6) (nm vi st pr : Int32) {p : Nat} (hp : 1 ≤ p ∧ p ≤ 12) : mI (m_addF g nm vi (nI p) st pr fc) bc vc (fc + 1) mc := by
  obtain ⟨⟨h1, h2⟩, ⟨h3, h4⟩, ⟨h5, h6⟩, ⟨h7, h8⟩, h9, h10, ⟨a, b, c, o1, o2, o3, o4, o5, o6, o7⟩, ⟨s, s1, s2⟩⟩ := H
  have e : ∀ j, j ≠ 7 → j < 42 + 5 * fc ∨ 72 ≤ j → m_addF g nm vi (nI p) st pr fc j = g j := fun j q1 q2 => by
    rw [m_addF, pk_un q1, pk_un (by omega), pk_un (by omega), pk_un (by omega), pk_un (by omega), pk_un (by omega)]
  refine ⟨⟨(e 8 (by omega) (by omega)).trans h1, h2⟩, ⟨(e 6 (by omega) (by omega)).trans h3, h4⟩, ⟨by rw [m_addF, pk_us], by omega⟩, ⟨(e 9 (by omega) (by omega)).trans h7, h8⟩, fun k hk => ?_, fun f hf' => ?_, ⟨a, b, c, o1, o2, o3, o4, (e 1 (by omega) (by omega)).trans o5, (e 2 (by omega) (by omega)).trans o6, (e 3 (by omega) (by omega)).trans o7⟩, ⟨s, s1, (e 0 (by omega) (by omega)).trans s2⟩⟩
  · obtain ⟨w, w1, w2⟩ := h9 k hk
    exact ⟨w, w1, (e _ (by omega) (by omega)).trans w2⟩
  · rcases Nat.lt_or_ge f fc with q | q
    · obtain ⟨p', p1, p2, p3⟩ := h10 f q
      exact ⟨p', p1, p2, (e _ (by omega) (by omega)).trans p3⟩
    · have : f = fc := by omega
      subst this
      exact ⟨p, hp.1, hp.2, by rw [m_addF, pk_un (by omega), pk_un (by omega), pk_un (by omega), pk_us]⟩
theorem mI.prints {g : RT} {bc vc fc mc : Nat} (H : mI g bc vc fc mc) (hb : bc < 30) {w : Nat} (hw : w < vc) (d x : Int32) : mI (m_prints g (nI w) d x bc) (bc + 1) vc fc mc := by
  obtain ⟨⟨h1, h2⟩, ⟨h3, h4⟩, ⟨h5, h6⟩, ⟨h7, h8⟩, h9, h10, ⟨a, b, c, o1, o2, o3, o4, o5, o6, o7⟩, ⟨s, s1, s2⟩⟩ := H
  have e : ∀ j, j ≠ 8 → j < 72 + 5 * bc → m_prints g (nI w) d x bc j = g j := fun j q1 q2 => by
    rw [m_prints, pk_un q1, pk_un (by omega), pk_un (by omega), pk_un (by omega), pk_un (by omega), pk_un (by omega)]
  refine ⟨⟨by rw [m_prints, pk_us], by omega⟩, ⟨(e 6 (by omega) (by omega)).trans h3, h4⟩, ⟨(e 7 (by omega) (by omega)).trans h5, h6⟩, ⟨(e 9 (by omega) (by omega)).trans h7, h8⟩, fun k hk => ?_, fun f hf' => ?_, ⟨a, b, c, o1, o2, o3, o4, (e 1 (by omega) (by omega)).trans o5, (e 2 (by omega) (by omega)).trans o6, (e 3 (by omega) (by omega)).trans o7⟩, ⟨s, s1, (e 0 (by omega) (by omega)).trans s2⟩⟩
  · rcases Nat.lt_or_ge k bc with q | q
    · obtain ⟨w, w1, w2⟩ := h9 k q
      exact ⟨w, w1, (e _ (by omega) (by omega)).trans w2⟩
    · have : k = bc := by omega
      subst this
      exact ⟨w, hw, by rw [m_prints, pk_un (by omega), pk_un (by omega), pk_un (by omega), pk_un (by omega), pk_un (by omega), pk_us]⟩
  · obtain ⟨p, p1, p2, p3⟩ := h10 f hf'
    exact ⟨p, p1, p2, (e _ (by omega) (by omega)).trans p3⟩
theorem mI.vOf {g : RT} {bc vc fc mc : Nat} (H : mI g bc vc fc mc) {k : Nat} (hk : k < bc) : vOf g k < 6 := by
  obtain ⟨w, w1, w2⟩ := H.2.2.2.2.1 k hk
  have := H.2.1.2
  show (g (72 + 5 * k)).toNatClampNeg < 6
  rw [w2, nI_clamp (by omega)]
  omega

theorem mI.ret1 {g : RT} {bc vc fc mc : Nat} (H : mI g bc vc fc mc) {k : Nat} (hk : k < bc) : mI (m_ret1 g k bc) (bc - 1) vc fc mc :=
  ((H.addTrust _ _ (H.vOf hk)).upd 12 _ (by omega)).drop k hk
theorem mI.retL {vc fc mc lo : Nat} : ∀ (n bc : Nat) (g : RT), lo + n ≤ bc → mI g bc vc fc mc → mI (m_retL lo n bc g) (bc - n) vc fc mc
  | 0, bc, g, _, H => H
  | n + 1, bc, g, hb, H => by
    rw [show bc - (n + 1) = bc - 1 - n by omega]
    exact mI.retL n (bc - 1) _ (by omega) (H.ret1 (by omega))
theorem mI.retracts {g : RT} {bc vc fc mc : Nat} (H : mI g bc vc fc mc) {pg : Nat} (hp : 4 * pg < bc) : mI (m_retracts g pg bc) (bc - (min bc (4 * pg + 4) - 4 * pg)) vc fc mc :=
  mI.retL _ bc _ (by omega) (H.payBack _)
theorem q_run_all {P : Int32 → Bool} {f : RT} : ∀ (k i j : Nat), i ≤ j → j < q_run P f k i → P (f j) = true
  | 0, i, j, h1, h2 => by rw [q_run] at h2; omega
  | k + 1, i, j, h1, h2 => by
    rw [q_run] at h2
    split at h2
    · rename_i hp
      by_cases e : j = i
      · rw [e]; exact hp
      · exact q_run_all k (i + 1) j (by omega) h2
    · omega
theorem dig_nat {x : Int32} (h : q_dig x) : ∃ d, d ≤ 9 ∧ x = nI (48 + d) := by
  have h0 : ¬ x < 0 := fun q => h.1 (Int32.lt_trans q (by decide))
  obtain ⟨j, hj, rfl⟩ := nI_of h0
  have h1 : 48 ≤ j := Nat.le_of_not_lt fun q => h.1 ((nI_ltI hj (by omega)).mpr q)
  have h2 : j ≤ 57 := Nat.le_of_not_lt fun q => h.2 ((nI_ltI (by omega) hj).mpr q)
  exact ⟨j - 48, by omega, by rw [show 48 + (j - 48) = j by omega]⟩
theorem q_dv_nat {f : RT} {j n d : Nat} (hn : n ≤ 999999999) (hd : d ≤ 9) (e : f j = nI (48 + d)) : q_dv f j (nI n) = if n ≤ 99999999 then nI (10 * n + d) else nI n := by
  unfold q_dv
  by_cases h : n ≤ 99999999
  · rw [if_pos ((nI_leI (b := 99999999) (by omega) (by omega)).mpr h), if_pos h, e, show (10 : Int32) * nI n = nI (10 * n) from pk_mul 10 n, nI_add, show (48 : Int32) = nI 48 from rfl, pk_sub (by omega), show 10 * n + (48 + d) - 48 = 10 * n + d by omega]
  · rw [if_neg (fun q => h ((nI_leI (b := 99999999) (by omega) (by omega)).mp q)), if_neg h]
theorem q_dv_run {f : RT} : ∀ (k i n : Nat), (∀ j, i ≤ j → j < i + k → q_dig (f j)) → n ≤ 999999999 → ∃ m, m ≤ 999999999 ∧ fo (q_dv f) i k (nI n) = nI m
  | 0, _, n, _, hn => ⟨n, hn, rfl⟩
  | k + 1, i, n, hd, hn => by
    obtain ⟨d, h1, h2⟩ := dig_nat (hd i (Nat.le_refl _) (by omega))
    rw [fo, q_dv_nat hn h1 h2]
    split
    · exact q_dv_run k (i + 1) _ (fun j a b => hd j (by omega) (by omega)) (by omega)
    · exact q_dv_run k (i + 1) _ (fun j a b => hd j (by omega) (by omega)) hn
/-- the digits of a number's token -/
theorem tok_dig {f : RT} {il e : Nat} (h : tK f il e = 2) : ∀ j, tS f il e ≤ j → j < tE f il e → q_dig (f j) := by
  intro j h1 h2
  rw [tE, if_neg (by omega), if_neg (by omega), if_pos h] at h2
  exact of_decide_eq_true (q_run_all _ _ j h1 h2)
theorem tV_nat (f : RT) (il e : Nat) : ∃ m, m ≤ 999999999 ∧ tV f il e = nI m := by
  unfold tV
  split
  · rename_i h
    exact q_dv_run _ _ 0 (fun j h1 h2 => tok_dig h j h1 (by omega)) (by omega)
  · exact ⟨0, by omega, rfl⟩

section PI2
variable {f : RT} {il : Nat} {t : PS RT}
theorem PI_v5 (h : PI il t) : PI il (p_v5 f il t) := PI_fin (PI_num (PI_num (PI_nn (PI_nxt (PI_chk (by decide) h)))))
theorem p_v5_l (h : (p_v5 f il t).2.2.1 = 0) : t.2.2.1 = 0 ∧ t.1 6 < 6 ∧ (p_v5 f il t).1 = t.1 := by
  have l3 := (p_num_l (p_num_l (p_fin_l h).1).1).1
  obtain ⟨a1, a2, a3⟩ := p_chk_l (by decide) (p_nxt_l (p_nn_l l3).1)
  exact ⟨a1, a2, (p_fin_g _ _ _).trans ((p_num_g _ _ _ _ _).trans ((p_num_g _ _ _ _ _).trans (p_nn_g.trans ((p_nxt_g _ _ _).trans (p_chk_g _ _ _ _ _)))))⟩
theorem PI_rv (h : PI il t) : PI il (p_rv f il t) := by
  have h5 := PI_v5 (f := f) h
  unfold p_rv
  split
  · rename_i hc
    obtain ⟨a1, a2, a3⟩ := p_v5_l hc
    have G5 := h5.2 hc
    exact ⟨h5.1, fun _ => GI_of (mI.addV G5 (lt_of_nI G5.2.1.1 (by have := G5.2.1.2; omega) (by omega) (by rw [a3]; exact a2)) _ _ _)⟩
  · exact h5
theorem PI_f7 (h : PI il t) : PI il (p_f7 f il t) := PI_fin (PI_num (PI_num (PI_num (PI_vh (PI_nn (PI_nxt (PI_chk (by decide) h)))))))
theorem p_f7_l (h : (p_f7 f il t).2.2.1 = 0) : t.2.2.1 = 0 ∧ t.1 7 < 6 ∧ (p_f7 f il t).1 = t.1 := by
  have l3 := (p_vh_l (p_num_l (p_num_l (p_num_l (p_fin_l h).1).1).1).1).1
  obtain ⟨a1, a2, a3⟩ := p_chk_l (by decide) (p_nxt_l (p_nn_l l3).1)
  exact ⟨a1, a2, (p_fin_g _ _ _).trans ((p_num_g _ _ _ _ _).trans ((p_num_g _ _ _ _ _).trans ((p_num_g _ _ _ _ _).trans (p_vh_g.trans (p_nn_g.trans ((p_nxt_g _ _ _).trans (p_chk_g _ _ _ _ _)))))))⟩
theorem PI_rf (h : PI il t) : PI il (p_rf f il t) := by
  have h5 := PI_f7 (f := f) h
  unfold p_rf
  split
  · rename_i hc
    obtain ⟨a1, a2, a3⟩ := p_f7_l hc
    have G5 := h5.2 hc
    obtain ⟨e, h1, h2⟩ := rng_eq (a := 1) (b := 12) (by omega) (by omega) (p_lkV_rng (f := f) (il := il) (lo := 1) (hi := 12) (t := p_f3 f il t) (by decide))
    refine ⟨h5.1, fun _ => ?_⟩
    rw [e]
    exact GI_of (mI.addF G5 (lt_of_nI G5.2.2.1.1 (by have := G5.2.2.1.2; omega) (by omega) (by rw [a3]; exact a2)) _ _ _ _ ⟨h1, h2⟩)
  · exact h5
theorem PI_s5 (h : PI il t) : PI il (p_s5 f il t) := PI_sc (PI_wh (PI_num (PI_vh (PI_nxt h))))
theorem PI_s6 (h : PI il t) : PI il (p_s6 f il t) := PI_chk (by decide) (PI_s5 h)
theorem p_s6_l (h : (p_s6 f il t).2.2.1 = 0) : t.2.2.1 = 0 ∧ (p_s6 f il t).1 = t.1 ∧ (p_s5 f il t).1 = t.1 ∧ m_why t.1 (p_vhV f il (p_s1 f il t)) (p_lkV f il 0 9999 (p_s2 f il t)) (m_bc t.1) = 0 ∧ ¬ m_vn t.1 (p_nm f il (p_s1 f il t)) (m_vc t.1) = -1 ∧ p_vhV f il (p_s1 f il t) = m_vn t.1 (p_nm f il (p_s1 f il t)) (m_vc t.1) ∧ ¬ p_whV f il (p_s3 f il t) = -1 := by
  obtain ⟨a1, a2, a3⟩ := p_chk_l (by decide) h
  have e5 : (p_s5 f il t).1 = t.1 := (p_chk_g _ _ _ _ _).trans (p_wh_g.trans ((p_num_g _ _ _ _ _).trans (p_vh_g.trans (p_nxt_g _ _ _))))
  have lw := p_wh_l (p_chk_l (by decide) a1).1
  have lv := p_vh_l (p_num_l lw.1).1
  have e1 : (p_s1 f il t).1 = t.1 := p_nxt_g _ _ _
  rw [e5] at a2
  rw [e1] at lv
  exact ⟨p_nxt_l lv.1, (p_chk_g _ _ _ _ _).trans e5, e5, a2, lv.2.2.1, lv.2.2.2.1, lw.2.1⟩
theorem PI_s7 (h : PI il t) : PI il (p_s7 f il t) := by
  have h6 := PI_s6 (f := f) h
  unfold p_s7
  split
  · rename_i hc
    obtain ⟨a1, a2, a3, a4, a5, a6, a7⟩ := p_s6_l hc
    have G6 := h6.2 hc
    obtain ⟨k, hk, ek⟩ := m_vn_cases a5
    refine ⟨h6.1, fun _ => ?_⟩
    rw [a6, ek]
    rw [a2] at G6 ⊢
    have hb := m_why0 a4
    exact GI_of (mI.prints G6 (by have := G6.1.2; omega) hk _ _)
  · exact h6
theorem PI_rs (h : PI il t) : PI il (p_rs f il t) := PI_nxt (PI_s7 h)
theorem PI_r3 (h : PI il t) : PI il (p_r3 f il t) := PI_chk (by decide) (PI_chk (by decide) (PI_nxt h))
theorem PI_r4 (h : PI il t) : PI il (p_r4 f il t) := PI_chk (by decide) (PI_r3 h)
theorem PI_r5 (h : PI il t) : PI il (p_r5 f il t) := PI_fin (PI_nxt (PI_r4 h))
theorem p_r3_l (h : (p_r3 f il t).2.2.1 = 0) : t.2.2.1 = 0 ∧ (p_r3 f il t).1 = t.1 ∧ p_rV f il t = tV f il (p_r3 f il t).2.1 ∧ p_rV f il t < nI ((m_bc t.1 + 4 - 1) / 4) := by
  obtain ⟨b1, b2, b3⟩ := p_chk_l (by decide) h
  obtain ⟨c1, c2, c3⟩ := p_chk_l (by decide) b1
  have e2 : (p_r2 f il t).1 = t.1 := (p_chk_g _ _ _ _ _).trans (p_nxt_g _ _ _)
  have ev : p_rV f il t = tV f il (p_r3 f il t).2.1 := if_pos h
  refine ⟨p_nxt_l c1, (p_chk_g _ _ _ _ _).trans e2, ev, ?_⟩
  rw [ev, show p_r3 f il t = p_r2 f il t from b3, ← e2]
  exact b2
theorem p_rV_nat : ∃ n, n ≤ 999999999 ∧ p_rV f il t = nI n := by
  unfold p_rV
  split
  · exact tV_nat _ _ _
  · exact ⟨0, by omega, rfl⟩
theorem p_rV_l (h : (p_r3 f il t).2.2.1 = 0) (hG : GI t.1) : p_rV f il t = nI (cl (p_rV f il t)) ∧ 4 * cl (p_rV f il t) < m_bc t.1 := by
  obtain ⟨a1, a2, a3, a4⟩ := p_r3_l h
  obtain ⟨n, hn, e⟩ := p_rV_nat (f := f) (il := il) (t := t)
  have hb := hG.1.2
  have := lt_of_nI e (by omega) (by omega) a4
  rw [e, cl, nI_clamp (by omega)]
  exact ⟨rfl, by omega⟩
theorem p_r5_l (h : (p_r5 f il t).2.2.1 = 0) : (p_r3 f il t).2.2.1 = 0 ∧ (p_r5 f il t).1 = t.1 ∧ m_refund t.1 (cl (p_rV f il t)) (m_bc t.1) ≤ t.1 4 := by
  have l4 := p_nxt_l (p_fin_l h).1
  obtain ⟨a1, a2, a3⟩ := p_chk_l (by decide) l4
  obtain ⟨-, e3, -⟩ := p_r3_l a1
  rw [e3] at a2
  exact ⟨a1, (p_fin_g _ _ _).trans ((p_nxt_g _ _ _).trans ((p_chk_g _ _ _ _ _).trans e3)), a2⟩
theorem PI_rr (h : PI il t) : PI il (p_rr f il t) := by
  have h5 := PI_r5 (f := f) h
  unfold p_rr
  split
  · rename_i hc
    obtain ⟨a1, a2, -⟩ := p_r5_l hc
    have G := h5.2 hc
    rw [a2] at G ⊢
    exact ⟨h5.1, fun _ => GI_of (mI.retracts G (p_rV_l a1 G).2)⟩
  · exact h5
theorem PI_p2 (h : PI il t) : PI il (p_p2 f il t) := PI_fin (PI_num (PI_nxt h))
theorem PI_rp (h : PI il t) : PI il (p_rp f il t) := by
  have h5 := PI_p2 (f := f) h
  unfold p_rp
  split
  · rename_i hc
    obtain ⟨b, m, -, H⟩ := mI.days (cl (p_lkV f il 0 200 (p_p1 f il t))) 0 _ _ _ (h5.2 hc)
    exact ⟨h5.1, fun _ => GI_of H⟩
  · exact h5
theorem PI_st (h : PI il t) : PI il (p_st f il t) := by
  unfold p_st
  split
  · exact PI_rv h
  · split
    · exact PI_rf h
    · split
      · exact PI_rs h
      · split
        · exact PI_rr h
        · split
          · exact PI_rp h
          · exact PI_chk (by decide) h
/-- a statement that is right moves on -/
theorem p_st_adv (h : t.2.1 ≤ il) (hk : ¬ tK f il t.2.1 = 0) (hc : (p_st f il t).2.2.1 = 0) : t.2.1 < (p_st f il t).2.1 := by
  have go : ∀ {u : PS RT}, u.2.1 = t.2.1 → (p_nxt f il u).2.2.1 = 0 → t.2.1 < (p_nxt f il u).2.1 := by
    intro u e q
    rw [p_nxt_pos (p_nxt_l q), e]
    exact tE_adv f il _ h hk
  unfold p_st at hc ⊢
  split at hc
  · unfold p_rv at hc ⊢
    have key : (p_v5 f il t).2.2.1 = 0 → t.2.1 < (p_v5 f il t).2.1 := by
      intro q
      have l3 := (p_num_l (p_num_l (p_fin_l q).1).1).1
      have e1 : (p_v1 f il t).2.1 ≤ il := PE_nxt (PE_chk h)
      have := go (u := p_chk f il (t.1 6 < 6) 5 t) (p_chk_e _ _ _ _ _) (p_nn_l l3).1
      exact Nat.lt_of_lt_of_le this (Nat.le_trans (PM_nn e1) (Nat.le_trans (PM_num (PE_nn e1)) (Nat.le_trans (PM_num (PE_num (PE_nn e1))) (PM_fin (PE_num (PE_num (PE_nn e1)))))))
    split at hc
    · rename_i q; rw [if_pos q]; exact key q
    · rename_i q; exact absurd hc q
  · split at hc
    · unfold p_rf at hc ⊢
      have key : (p_f7 f il t).2.2.1 = 0 → t.2.1 < (p_f7 f il t).2.1 := by
        intro q
        have l3 := (p_vh_l (p_num_l (p_num_l (p_num_l (p_fin_l q).1).1).1).1).1
        have e1 : (p_f1 f il t).2.1 ≤ il := PE_nxt (PE_chk h)
        have := go (u := p_chk f il (t.1 7 < 6) 5 t) (p_chk_e _ _ _ _ _) (p_nn_l l3).1
        have e3 := PE_vh (f := f) (PE_nn (f := f) e1)
        exact Nat.lt_of_lt_of_le this (Nat.le_trans (PM_nn e1) (Nat.le_trans (PM_vh (PE_nn e1)) (Nat.le_trans (PM_num e3) (Nat.le_trans (PM_num (PE_num e3)) (Nat.le_trans (PM_num (PE_num (PE_num e3))) (PM_fin (PE_num (PE_num (PE_num e3)))))))))
      split at hc
      · rename_i q; rw [if_pos q]; exact key q
      · rename_i q; exact absurd hc q
    · split at hc
      · have l7 := p_nxt_l hc
        have key : (p_s6 f il t).2.2.1 = 0 → t.2.1 < (p_s6 f il t).2.1 := by
          intro q
          have l1 := (p_vh_l (p_num_l (p_wh_l (p_chk_l (by decide) (p_chk_l (by decide) q).1).1).1).1).1
          have e1 : (p_s1 f il t).2.1 ≤ il := PE_nxt h
          have := go (u := t) rfl l1
          exact Nat.lt_of_lt_of_le this (Nat.le_trans (PM_vh e1) (Nat.le_trans (PM_num (PE_vh e1)) (Nat.le_trans (PM_wh (PE_num (PE_vh e1))) (Nat.le_trans PM_chk PM_chk))))
        have k7 : t.2.1 < (p_s7 f il t).2.1 := by
          unfold p_s7 at l7 ⊢
          split at l7
          · rename_i q; rw [if_pos q]; exact key q
          · rename_i q; exact absurd l7 q
        have e7 : (p_s7 f il t).2.1 ≤ il := by
          have e6 : (p_s6 f il t).2.1 ≤ il := PE_chk (PE_chk (PE_wh (PE_num (PE_vh (PE_nxt h)))))
          unfold p_s7; split
          · exact e6
          · exact e6
        exact Nat.lt_of_lt_of_le k7 (PM_nxt e7)
      · split at hc
        · unfold p_rr at hc ⊢
          have key : (p_r5 f il t).2.2.1 = 0 → t.2.1 < (p_r5 f il t).2.1 := by
            intro q
            have l1 := (p_chk_l (by decide) (p_chk_l (by decide) (p_chk_l (by decide) (p_nxt_l (p_fin_l q).1)).1).1).1
            have e1 : (p_r1 f il t).2.1 ≤ il := PE_nxt h
            have := go (u := t) rfl l1
            have e4 : (p_r4 f il t).2.1 ≤ il := PE_chk (PE_chk (PE_chk e1))
            have m4 : (p_r1 f il t).2.1 ≤ (p_r4 f il t).2.1 := Nat.le_trans PM_chk (Nat.le_trans PM_chk PM_chk)
            exact Nat.lt_of_lt_of_le this (Nat.le_trans m4 (Nat.le_trans (PM_nxt e4) (PM_fin (PE_nxt e4))))
          split at hc
          · rename_i q; rw [if_pos q]; exact key q
          · rename_i q; exact absurd hc q
        · split at hc
          · unfold p_rp at hc ⊢
            have key : (p_p2 f il t).2.2.1 = 0 → t.2.1 < (p_p2 f il t).2.1 := by
              intro q
              have l1 := (p_num_l (p_fin_l q).1).1
              have e1 : (p_p1 f il t).2.1 ≤ il := PE_nxt h
              have := go (u := t) rfl l1
              exact Nat.lt_of_lt_of_le this (Nat.le_trans (PM_num e1) (PM_fin (PE_num e1)))
            split at hc
            · rename_i q; rw [if_pos q]; exact key q
            · rename_i q; exact absurd hc q
          · exact absurd (p_chk_l (by decide) hc).2.1 id
theorem PI_head : PI il (p_head f il) := by
  have e0 : (p_h0).2.1 ≤ il := Nat.zero_le _
  have e1 : (p_h1 f il).2.1 ≤ il := PE_nxt (PE_chk e0)
  have e2 : (p_h2 f il).2.1 ≤ il := PE_num e1
  have e3 : (p_h3 f il).2.1 ≤ il := PE_num e2
  have e4 : (p_h4 f il).2.1 ≤ il := PE_num e3
  have e5 : (p_h5 f il).2.1 ≤ il := PE_lk e4
  refine ⟨PE_fin (PE_nxt (PE_chk e5)), fun hc => ?_⟩
  have l5 := p_chk_l (f := f) (il := il) (P := 0 < m_allOdds (p_h5 f il).1) (w := 2) (by decide) (p_nxt_l (p_fin_l hc).1)
  have eg : (p_head f il).1 = (p_h5 f il).1 := (p_fin_g _ _ _).trans ((p_nxt_g _ _ _).trans (p_chk_g _ _ _ _ _))
  have g1 : (p_h1 f il).1 = fun _ => 0 := (p_nxt_g _ _ _).trans (p_chk_g _ _ _ _ _)
  have g2 : (p_h2 f il).1 = upd (fun _ => 0) 0 (p_lkV f il 0 1023 (p_h1 f il)) := by
    show upd (p_num f il 0 1023 (p_h1 f il)).1 0 _ = _
    rw [p_num_g, g1]
  have g3 : (p_h3 f il).1 = upd (p_h2 f il).1 1 (p_lkV f il 0 20 (p_h2 f il)) := by
    show upd (p_num f il 0 20 (p_h2 f il)).1 1 _ = _
    rw [p_num_g]
  have g4 : (p_h4 f il).1 = upd (p_h3 f il).1 2 (p_lkV f il 0 20 (p_h3 f il)) := by
    show upd (p_num f il 0 20 (p_h3 f il)).1 2 _ = _
    rw [p_num_g]
  have g5 : (p_h5 f il).1 = upd (p_h4 f il).1 3 (p_lkV f il 0 20 (p_h4 f il)) := by
    show upd (p_lk f il 0 20 (p_h4 f il)).1 3 _ = _
    rw [p_lk_g]
  obtain ⟨es, -, hs⟩ := rng_eq (a := 0) (b := 1023) (by omega) (by omega) (p_lkV_rng (f := f) (il := il) (lo := 0) (hi := 1023) (t := p_h1 f il) (by decide))
  obtain ⟨ea, -, ha⟩ := rng_eq (a := 0) (b := 20) (by omega) (by omega) (p_lkV_rng (f := f) (il := il) (lo := 0) (hi := 20) (t := p_h2 f il) (by decide))
  obtain ⟨eb, -, hb⟩ := rng_eq (a := 0) (b := 20) (by omega) (by omega) (p_lkV_rng (f := f) (il := il) (lo := 0) (hi := 20) (t := p_h3 f il) (by decide))
  obtain ⟨ec, -, hcc⟩ := rng_eq (a := 0) (b := 20) (by omega) (by omega) (p_lkV_rng (f := f) (il := il) (lo := 0) (hi := 20) (t := p_h4 f il) (by decide))
  rw [eg]
  have A : ∀ j, (p_h5 f il).1 j = if j = 3 then nI (cl (p_lkV f il 0 20 (p_h4 f il))) else if j = 2 then nI (cl (p_lkV f il 0 20 (p_h3 f il))) else if j = 1 then nI (cl (p_lkV f il 0 20 (p_h2 f il))) else if j = 0 then nI (cl (p_lkV f il 0 1023 (p_h1 f il))) else 0 := by
    intro j
    rw [g5, g4, g3, g2, ← ec, ← eb, ← ea, ← es]
    rfl
  have hsum := l5.2.1
  rw [m_allOdds, A 1, A 2, A 3] at hsum
  simp only [if_true, show ¬ (1 : Nat) = 3 by decide, show ¬ (1 : Nat) = 2 by decide, show ¬ (2 : Nat) = 3 by decide, if_false] at hsum
  rw [nI_add, nI_add] at hsum
  have hs1 := (nI_ltI (a := 0) (by omega) (by omega)).mp hsum
  refine GI_of (bc := 0) (vc := 0) (fc := 0) (mc := 0) ⟨⟨(A 8).trans rfl, by omega⟩, ⟨(A 6).trans rfl, by omega⟩, ⟨(A 7).trans rfl, by omega⟩, ⟨(A 9).trans rfl, by omega⟩, fun k hk => absurd hk (Nat.not_lt_zero _), fun k hk => absurd hk (Nat.not_lt_zero _), ⟨_, _, _, ha, hb, hcc, by omega, (A 1).trans rfl, (A 2).trans rfl, (A 3).trans rfl⟩, ⟨_, by omega, (A 0).trans rfl⟩⟩
end PI2

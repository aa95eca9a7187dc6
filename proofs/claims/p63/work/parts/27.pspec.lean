/-! THE PARSER, PURE: a state of a parse is (what is built, the place before the present token, the code, the place of the error); behind an error nothing moves. The same functions serve the model (built: a row) and the class (built: a State). f: the text's bytes, il: its length -/
abbrev PS (α : Type) : Type := α × Nat × Int32 × Int32
/-- the char j of the constant i -/
def sk_ch (i j : Nat) : Int32 := (SKb.getD i []).getD j 0 &&& 255
abbrev tIs (f : RT) (il e i : Nat) : Prop := tK f il e = 3 ∧ tL f il e = SKn.getD i 0 ∧ ∀ j, j < SKn.getD i 0 → f (tS f il e + j) = sk_ch i j
section PSP
variable {α : Type}
def p_chk (f : RT) (il : Nat) (P : Prop) [Decidable P] (w : Int32) (t : PS α) : PS α := if t.2.2.1 = 0 then (if P then t else (t.1, t.2.1, w, nI (tS f il t.2.1))) else t
def p_nxt (f : RT) (il : Nat) (t : PS α) : PS α := if t.2.2.1 = 0 then (t.1, tE f il t.2.1, t.2.2.1, t.2.2.2) else t
def p_tk (f : RT) (il : Nat) (t : PS α) : PS α := p_chk f il (tK f il t.2.1 = 2) 1 t
/-- look with the value v of the token -/
def p_lkG (f : RT) (il : Nat) (v lo hi : Int32) (t : PS α) : PS α := p_chk f il (¬ v < lo ∧ ¬ hi < v) 2 (p_tk f il t)
def p_lk (f : RT) (il : Nat) (lo hi : Int32) (t : PS α) : PS α := p_lkG f il (tV f il (p_tk f il t).2.1) lo hi t
def p_lkV (f : RT) (il : Nat) (lo hi : Int32) (t : PS α) : Int32 := if (p_lk f il lo hi t).2.2.1 = 0 then tV f il (p_lk f il lo hi t).2.1 else lo
def p_num (f : RT) (il : Nat) (lo hi : Int32) (t : PS α) : PS α := p_nxt f il (p_lk f il lo hi t)
abbrev p_semi (f : RT) (il e : Nat) : Prop := tK f il e = 1 ∧ f (tS f il e) = 59
def p_sc (f : RT) (il : Nat) (t : PS α) : PS α := p_chk f il (p_semi f il t.2.1) 1 t
def p_fin (f : RT) (il : Nat) (t : PS α) : PS α := p_nxt f il (p_sc f il t)
def p_wd (f : RT) (il : Nat) (t : PS α) : PS α := p_chk f il (tK f il t.2.1 = 3) 1 t
theorem p_chk_g (f : RT) (il : Nat) (P : Prop) [Decidable P] (w : Int32) (t : PS α) : (p_chk f il P w t).1 = t.1 := by
  unfold p_chk; split
  · split <;> rfl
  · rfl
theorem p_chk_e (f : RT) (il : Nat) (P : Prop) [Decidable P] (w : Int32) (t : PS α) : (p_chk f il P w t).2.1 = t.2.1 := by
  unfold p_chk; split
  · split <;> rfl
  · rfl
theorem p_nxt_g (f : RT) (il : Nat) (t : PS α) : (p_nxt f il t).1 = t.1 := by
  unfold p_nxt; split <;> rfl
/-- behind an error nothing moves -/
theorem p_chk_z {f : RT} {il : Nat} {P : Prop} [Decidable P] {w : Int32} {t : PS α} (h : ¬ t.2.2.1 = 0) : p_chk f il P w t = t := if_neg h
theorem p_nxt_z {f : RT} {il : Nat} {t : PS α} (h : ¬ t.2.2.1 = 0) : p_nxt f il t = t := if_neg h
theorem p_chk_t {f : RT} {il : Nat} {P : Prop} [Decidable P] {w : Int32} {t : PS α} (h : P) : p_chk f il P w t = t := by
  unfold p_chk
  split
  · first | rfl | rw [if_pos h]
  · rfl
theorem p_chk_f {f : RT} {il : Nat} {P : Prop} [Decidable P] {w : Int32} {t : PS α} (hc : t.2.2.1 = 0) (h : ¬ P) : p_chk f il P w t = (t.1, t.2.1, w, nI (tS f il t.2.1)) := by
  rw [p_chk, if_pos hc, if_neg h]
/-- still without an error: then it was so before, and what was asked holds -/
theorem p_chk_l {f : RT} {il : Nat} {P : Prop} [Decidable P] {w : Int32} {t : PS α} (hw : ¬ w = 0) (h : (p_chk f il P w t).2.2.1 = 0) : t.2.2.1 = 0 ∧ P ∧ p_chk f il P w t = t := by
  by_cases hc : t.2.2.1 = 0
  · by_cases hP : P
    · exact ⟨hc, hP, p_chk_t hP⟩
    · rw [p_chk_f hc hP] at h; exact absurd h hw
  · rw [p_chk_z hc] at h; exact absurd h hc
theorem p_nxt_l {f : RT} {il : Nat} {t : PS α} (h : (p_nxt f il t).2.2.1 = 0) : t.2.2.1 = 0 := by
  by_cases hc : t.2.2.1 = 0
  · exact hc
  · rw [p_nxt_z hc] at h; exact absurd h hc
theorem p_nxt_c {f : RT} {il : Nat} {t : PS α} : (p_nxt f il t).2.2.1 = t.2.2.1 := by
  unfold p_nxt; split <;> rfl
theorem p_nxt_pos {f : RT} {il : Nat} {t : PS α} (h : t.2.2.1 = 0) : p_nxt f il t = (t.1, tE f il t.2.1, t.2.2.1, t.2.2.2) := if_pos h
theorem p_lkG_l {f : RT} {il : Nat} {v lo hi : Int32} {t : PS α} (h : (p_lkG f il v lo hi t).2.2.1 = 0) : t.2.2.1 = 0 ∧ tK f il t.2.1 = 2 ∧ (¬ v < lo ∧ ¬ hi < v) ∧ p_lkG f il v lo hi t = t := by
  unfold p_lkG at h ⊢
  obtain ⟨h1, h2, h3⟩ := p_chk_l (by decide) h
  obtain ⟨h4, h5, h6⟩ := p_chk_l (by decide) h1
  exact ⟨h4, h5, h2, h3.trans h6⟩
theorem p_lk_g (f : RT) (il : Nat) (lo hi : Int32) (t : PS α) : (p_lk f il lo hi t).1 = t.1 := (p_chk_g _ _ _ _ _).trans (p_chk_g _ _ _ _ _)
theorem p_num_g (f : RT) (il : Nat) (lo hi : Int32) (t : PS α) : (p_num f il lo hi t).1 = t.1 := (p_nxt_g _ _ _).trans (p_lk_g _ _ _ _ _)
theorem p_fin_g (f : RT) (il : Nat) (t : PS α) : (p_fin f il t).1 = t.1 := (p_nxt_g _ _ _).trans (p_chk_g _ _ _ _ _)
theorem p_tk_e (f : RT) (il : Nat) (t : PS α) : (p_tk f il t).2.1 = t.2.1 := p_chk_e _ _ _ _ _
theorem p_lk_e (f : RT) (il : Nat) (lo hi : Int32) (t : PS α) : (p_lk f il lo hi t).2.1 = t.2.1 := (p_chk_e _ _ _ _ _).trans (p_tk_e _ _ _)
theorem p_lk_l {f : RT} {il : Nat} {lo hi : Int32} {t : PS α} (h : (p_lk f il lo hi t).2.2.1 = 0) : t.2.2.1 = 0 ∧ tK f il t.2.1 = 2 ∧ (¬ tV f il t.2.1 < lo ∧ ¬ hi < tV f il t.2.1) ∧ p_lk f il lo hi t = t := by
  obtain ⟨h1, h2, h3, h4⟩ := p_lkG_l h
  rw [p_tk_e] at h3
  exact ⟨h1, h2, h3, h4⟩
theorem p_num_l {f : RT} {il : Nat} {lo hi : Int32} {t : PS α} (h : (p_num f il lo hi t).2.2.1 = 0) : t.2.2.1 = 0 ∧ tK f il t.2.1 = 2 ∧ (¬ tV f il t.2.1 < lo ∧ ¬ hi < tV f il t.2.1) ∧ p_num f il lo hi t = (t.1, tE f il t.2.1, t.2.2.1, t.2.2.2) := by
  obtain ⟨h1, h2, h3, h4⟩ := p_lk_l (p_nxt_l h)
  refine ⟨h1, h2, h3, ?_⟩
  rw [p_num, h4, p_nxt_pos h1]
theorem p_fin_l {f : RT} {il : Nat} {t : PS α} (h : (p_fin f il t).2.2.1 = 0) : t.2.2.1 = 0 ∧ p_semi f il t.2.1 ∧ p_fin f il t = (t.1, tE f il t.2.1, t.2.2.1, t.2.2.2) := by
  obtain ⟨h1, h2, h3⟩ := p_chk_l (by decide) (p_nxt_l h)
  exact ⟨h1, h2, by rw [p_fin, p_sc, h3, p_nxt_pos h1]⟩
theorem p_lkV_rng {f : RT} {il : Nat} {lo hi : Int32} {t : PS α} (hlh : lo ≤ hi) : ¬ p_lkV f il lo hi t < lo ∧ ¬ hi < p_lkV f il lo hi t := by
  unfold p_lkV
  split
  · rename_i h; rw [p_lk_e]; exact (p_lk_l h).2.2.1
  · exact ⟨Int32.lt_irrefl, Int32.not_lt.mpr hlh⟩
theorem p_lkV_l {f : RT} {il : Nat} {lo hi : Int32} {t : PS α} (h : (p_num f il lo hi t).2.2.1 = 0) : p_lkV f il lo hi t = tV f il t.2.1 := by
  rw [p_lkV, if_pos (p_nxt_l h), p_lk_e]
end PSP
theorem tK_le3 (f : RT) (il e : Nat) : tK f il e ≤ 3 := by
  unfold tK
  split
  · omega
  · split
    · omega
    · split <;> omega
theorem tK_pos (f : RT) (il p : Nat) (h : ¬ tK f il p = 0) : tS f il p < il := by
  unfold tK at h
  split at h
  · exact absurd rfl h
  · omega
theorem tS_le (f : RT) (il p : Nat) (h : p ≤ il) : p ≤ tS f il p ∧ tS f il p ≤ il := by
  have := q_run_le (fun x => decide (q_bl x)) f (il - p) p
  unfold tS
  omega
theorem tE_le (f : RT) (il p : Nat) (h : p ≤ il) : tS f il p ≤ tE f il p ∧ tE f il p ≤ il := by
  have h1 := tS_le f il p h
  have h2 := q_run_le (fun x => decide (q_let x)) f (il - tS f il p) (tS f il p)
  have h3 := q_run_le (fun x => decide (q_dig x)) f (il - tS f il p) (tS f il p)
  unfold tE
  split
  · omega
  · rename_i h0
    split
    · omega
    · split
      · omega
      · have := tK_pos f il p h0
        omega
theorem tL_le (f : RT) (il p : Nat) (h : p ≤ il) : tS f il p + tL f il p ≤ il := by
  have h1 := tE_le f il p h
  have h2 := tS_le f il p h
  unfold tL
  split <;> omega
/-- a token that is no end is not empty -/
theorem tE_adv (f : RT) (il p : Nat) (h : p ≤ il) (hk : ¬ tK f il p = 0) : p < tE f il p := by
  have h1 := tS_le f il p h
  have hp := tK_pos f il p hk
  have go : ∀ P : Int32 → Bool, P (f (tS f il p)) = true → tS f il p < q_run P f (il - tS f il p) (tS f il p) := by
    intro P c
    rw [q_run_go hp c]
    have := q_run_le P f (il - (tS f il p + 1)) (tS f il p + 1)
    omega
  unfold tE
  rw [if_neg hk]
  split
  · rename_i h3
    have hl : q_let (f (tS f il p)) := by
      by_cases q : q_let (f (tS f il p))
      · exact q
      · exfalso
        unfold tK at h3
        rw [if_neg (by omega), if_neg q] at h3
        split at h3 <;> exact absurd h3 (by decide)
    have := go (fun x => decide (q_let x)) (decide_eq_true hl)
    omega
  · split
    · rename_i h3 h2
      have hl : q_dig (f (tS f il p)) := by
        by_cases q : q_dig (f (tS f il p))
        · exact q
        · exfalso
          unfold tK at h2
          rw [if_neg (by omega), if_neg q] at h2
          split at h2 <;> exact absurd h2 (by decide)
      have := go (fun x => decide (q_dig x)) (decide_eq_true hl)
      omega
    · omega
theorem tok_b (f : RT) {il e : Nat} (h : e ≤ il) (hb : il ≤ 600) : tK f il e ≤ 3 ∧ tS f il e ≤ 600 ∧ tS f il e + tL f il e ≤ 600 ∧ tE f il e ≤ 600 ∧ tL f il e ≤ 600 := by
  have h1 := tS_le f il e h
  have h2 := tE_le f il e h
  have h3 := tL_le f il e h
  have h4 := tK_le3 f il e
  omega
section PSE
variable {α : Type} {f : RT} {il : Nat} {t : PS α}
theorem PE_chk {P : Prop} [Decidable P] {w : Int32} (h : t.2.1 ≤ il) : (p_chk f il P w t).2.1 ≤ il := by rw [p_chk_e]; exact h
theorem PE_nxt (h : t.2.1 ≤ il) : (p_nxt f il t).2.1 ≤ il := by
  unfold p_nxt; split
  · exact (tE_le f il _ h).2
  · exact h
theorem PE_lk {lo hi : Int32} (h : t.2.1 ≤ il) : (p_lk f il lo hi t).2.1 ≤ il := PE_chk (PE_chk h)
theorem PE_num {lo hi : Int32} (h : t.2.1 ≤ il) : (p_num f il lo hi t).2.1 ≤ il := PE_nxt (PE_lk h)
theorem PE_fin (h : t.2.1 ≤ il) : (p_fin f il t).2.1 ≤ il := PE_nxt (PE_chk h)
/-- places never go back -/
theorem PM_nxt (h : t.2.1 ≤ il) : t.2.1 ≤ (p_nxt f il t).2.1 := by
  unfold p_nxt; split
  · have h1 := tE_le f il _ h; have h2 := tS_le f il _ h; show t.2.1 ≤ tE f il t.2.1; omega
  · exact Nat.le_refl _
theorem PM_chk {P : Prop} [Decidable P] {w : Int32} : t.2.1 ≤ (p_chk f il P w t).2.1 := by rw [p_chk_e]; exact Nat.le_refl _
theorem PM_lk {lo hi : Int32} : t.2.1 ≤ (p_lk f il lo hi t).2.1 := Nat.le_trans PM_chk PM_chk
theorem PM_num {lo hi : Int32} (h : t.2.1 ≤ il) : t.2.1 ≤ (p_num f il lo hi t).2.1 := Nat.le_trans PM_lk (PM_nxt (PE_lk h))
theorem PM_fin (h : t.2.1 ≤ il) : t.2.1 ≤ (p_fin f il t).2.1 := Nat.le_trans PM_chk (PM_nxt (PE_chk h))
end PSE

/-! the model's -/
def pX (M : CT) (il : Nat) (t : PS RT) : CT := pW M t.1 (tE (M 6) il t.2.1) (tS (M 6) il t.2.1) (tK (M 6) il t.2.1) (tV (M 6) il t.2.1) (tL (M 6) il t.2.1) t.2.2.1 t.2.2.2
def p_nm (f : RT) (il : Nat) (t : PS RT) : Int32 := q_nm f (tS f il t.2.1) (tL f il t.2.1)
def p_nnV (f : RT) (il : Nat) (t : PS RT) : Int32 := if (p_wd f il t).2.2.1 = 0 then p_nm f il (p_wd f il t) else 0
def p_nn2 (f : RT) (il : Nat) (t : PS RT) : PS RT := p_chk f il (¬ p_nnV f il t = -1) 2 (p_wd f il t)
abbrev p_free (g : RT) (nm : Int32) : Prop := m_vn g nm (m_vc g) = -1 ∧ m_fn g nm (m_fc g) = -1
def p_nn3 (f : RT) (il : Nat) (t : PS RT) : PS RT := p_chk f il (p_free (p_nn2 f il t).1 (p_nnV f il t)) 3 (p_nn2 f il t)
def p_nn (f : RT) (il : Nat) (t : PS RT) : PS RT := p_nxt f il (p_nn3 f il t)
def p_vhW (f : RT) (il : Nat) (t : PS RT) : Int32 := if (p_wd f il t).2.2.1 = 0 then m_vn (p_wd f il t).1 (p_nm f il (p_wd f il t)) (m_vc (p_wd f il t).1) else 0
def p_vh1 (f : RT) (il : Nat) (t : PS RT) : PS RT := p_chk f il (¬ p_vhW f il t = -1) 4 (p_wd f il t)
def p_vh (f : RT) (il : Nat) (t : PS RT) : PS RT := p_nxt f il (p_vh1 f il t)
def p_vhV (f : RT) (il : Nat) (t : PS RT) : Int32 := if (p_vh f il t).2.2.1 = 0 then p_vhW f il t else 0
def p_whV (f : RT) (il : Nat) (t : PS RT) : Int32 := if tIs f il t.2.1 15 then 0 else if tIs f il t.2.1 16 then 1 else if tIs f il t.2.1 17 then 2 else -1
def p_wh1 (f : RT) (il : Nat) (t : PS RT) : PS RT := p_chk f il (¬ p_whV f il t = -1) 1 t
def p_wh (f : RT) (il : Nat) (t : PS RT) : PS RT := p_nxt f il (p_wh1 f il t)
-- village
def p_v1 (f : RT) (il : Nat) (t : PS RT) : PS RT := p_nxt f il (p_chk f il (t.1 6 < 6) 5 t)
def p_v2 (f : RT) (il : Nat) (t : PS RT) : PS RT := p_nn f il (p_v1 f il t)
def p_v3 (f : RT) (il : Nat) (t : PS RT) : PS RT := p_num f il 1 99 (p_v2 f il t)
def p_v4 (f : RT) (il : Nat) (t : PS RT) : PS RT := p_num f il 0 100 (p_v3 f il t)
def p_v5 (f : RT) (il : Nat) (t : PS RT) : PS RT := p_fin f il (p_v4 f il t)
def m_addV (g : RT) (nm pe tr : Int32) (vc : Nat) : RT := upd (upd (upd (upd g (24 + 3 * vc) nm) (25 + 3 * vc) pe) (26 + 3 * vc) tr) 6 (nI (vc + 1))
def p_rv (f : RT) (il : Nat) (t : PS RT) : PS RT := if (p_v5 f il t).2.2.1 = 0 then (m_addV (p_v5 f il t).1 (p_nnV f il (p_v1 f il t)) (p_lkV f il 1 99 (p_v2 f il t)) (p_lkV f il 0 100 (p_v3 f il t)) (m_vc (p_v5 f il t).1), (p_v5 f il t).2) else p_v5 f il t
-- fair
def p_f1 (f : RT) (il : Nat) (t : PS RT) : PS RT := p_nxt f il (p_chk f il (t.1 7 < 6) 5 t)
def p_f2 (f : RT) (il : Nat) (t : PS RT) : PS RT := p_nn f il (p_f1 f il t)
def p_f3 (f : RT) (il : Nat) (t : PS RT) : PS RT := p_vh f il (p_f2 f il t)
def p_f4 (f : RT) (il : Nat) (t : PS RT) : PS RT := p_num f il 1 12 (p_f3 f il t)
def p_f5 (f : RT) (il : Nat) (t : PS RT) : PS RT := p_num f il 1 99 (p_f4 f il t)
def p_f6 (f : RT) (il : Nat) (t : PS RT) : PS RT := p_num f il 1 20 (p_f5 f il t)
def p_f7 (f : RT) (il : Nat) (t : PS RT) : PS RT := p_fin f il (p_f6 f il t)
def m_addF (g : RT) (nm vi pe st pr : Int32) (fc : Nat) : RT := upd (upd (upd (upd (upd (upd g (42 + 5 * fc) nm) (43 + 5 * fc) vi) (44 + 5 * fc) pe) (45 + 5 * fc) st) (46 + 5 * fc) pr) 7 (nI (fc + 1))
def p_rf (f : RT) (il : Nat) (t : PS RT) : PS RT := if (p_f7 f il t).2.2.1 = 0 then (m_addF (p_f7 f il t).1 (p_nnV f il (p_f1 f il t)) (p_vhV f il (p_f2 f il t)) (p_lkV f il 1 12 (p_f3 f il t)) (p_lkV f il 1 99 (p_f4 f il t)) (p_lkV f il 1 20 (p_f5 f il t)) (m_fc (p_f7 f il t).1), (p_f7 f il t).2) else p_f7 f il t
-- say
def p_s1 (f : RT) (il : Nat) (t : PS RT) : PS RT := p_nxt f il t
def p_s2 (f : RT) (il : Nat) (t : PS RT) : PS RT := p_vh f il (p_s1 f il t)
def p_s3 (f : RT) (il : Nat) (t : PS RT) : PS RT := p_num f il 0 9999 (p_s2 f il t)
def p_s4 (f : RT) (il : Nat) (t : PS RT) : PS RT := p_wh f il (p_s3 f il t)
def p_s5 (f : RT) (il : Nat) (t : PS RT) : PS RT := p_sc f il (p_s4 f il t)
def p_s6 (f : RT) (il : Nat) (t : PS RT) : PS RT := p_chk f il (m_why (p_s5 f il t).1 (p_vhV f il (p_s1 f il t)) (p_lkV f il 0 9999 (p_s2 f il t)) (m_bc (p_s5 f il t).1) = 0) 6 (p_s5 f il t)
def p_s7 (f : RT) (il : Nat) (t : PS RT) : PS RT := if (p_s6 f il t).2.2.1 = 0 then (m_prints (p_s6 f il t).1 (p_vhV f il (p_s1 f il t)) (p_lkV f il 0 9999 (p_s2 f il t)) (p_whV f il (p_s3 f il t)) (m_bc (p_s6 f il t).1), (p_s6 f il t).2) else p_s6 f il t
def p_rs (f : RT) (il : Nat) (t : PS RT) : PS RT := p_nxt f il (p_s7 f il t)
-- retract
def p_r1 (f : RT) (il : Nat) (t : PS RT) : PS RT := p_nxt f il t
def p_r2 (f : RT) (il : Nat) (t : PS RT) : PS RT := p_chk f il (tK f il (p_r1 f il t).2.1 = 2) 1 (p_r1 f il t)
def p_r3 (f : RT) (il : Nat) (t : PS RT) : PS RT := p_chk f il (tV f il (p_r2 f il t).2.1 < nI ((m_bc (p_r2 f il t).1 + 4 - 1) / 4)) 4 (p_r2 f il t)
def p_rV (f : RT) (il : Nat) (t : PS RT) : Int32 := if (p_r3 f il t).2.2.1 = 0 then tV f il (p_r3 f il t).2.1 else 0
def p_r4 (f : RT) (il : Nat) (t : PS RT) : PS RT := p_chk f il (m_refund (p_r3 f il t).1 (cl (p_rV f il t)) (m_bc (p_r3 f il t).1) ≤ (p_r3 f il t).1 4) 6 (p_r3 f il t)
def p_r5 (f : RT) (il : Nat) (t : PS RT) : PS RT := p_fin f il (p_nxt f il (p_r4 f il t))
def p_rr (f : RT) (il : Nat) (t : PS RT) : PS RT := if (p_r5 f il t).2.2.1 = 0 then (m_retracts (p_r5 f il t).1 (cl (p_rV f il t)) (m_bc (p_r5 f il t).1), (p_r5 f il t).2.1, (if 0 ≤ m_refund (p_r5 f il t).1 (cl (p_rV f il t)) (m_bc (p_r5 f il t).1) then (p_r5 f il t).2.2.1 else 1), (p_r5 f il t).2.2.2) else p_r5 f il t
-- pass
def p_p1 (f : RT) (il : Nat) (t : PS RT) : PS RT := p_nxt f il t
def p_p2 (f : RT) (il : Nat) (t : PS RT) : PS RT := p_fin f il (p_num f il 0 200 (p_p1 f il t))
def p_rp (f : RT) (il : Nat) (t : PS RT) : PS RT := if (p_p2 f il t).2.2.1 = 0 then (m_days (cl (p_lkV f il 0 200 (p_p1 f il t))) (p_p2 f il t).1, (p_p2 f il t).2) else p_p2 f il t
def p_st (f : RT) (il : Nat) (t : PS RT) : PS RT := if tIs f il t.2.1 12 then p_rv f il t else if tIs f il t.2.1 13 then p_rf f il t else if tIs f il t.2.1 14 then p_rs f il t else if tIs f il t.2.1 18 then p_rr f il t else if tIs f il t.2.1 19 then p_rp f il t else p_chk f il False 1 t
def p_lp (f : RT) (il : Nat) : Nat → PS RT → PS RT
  | 0, t => t
  | n + 1, t => if t.2.2.1 = 0 ∧ ¬ tK f il t.2.1 = 0 then p_lp f il n (p_st f il t) else t
def p_set (i : Nat) (v : Int32) (t : PS RT) : PS RT := (upd t.1 i v, t.2)
def p_h0 : PS RT := (fun _ => 0, 0, 0, -1)
def p_h1 (f : RT) (il : Nat) : PS RT := p_nxt f il (p_chk f il (tIs f il p_h0.2.1 11) 1 p_h0)
def p_h2 (f : RT) (il : Nat) : PS RT := p_set 0 (p_lkV f il 0 1023 (p_h1 f il)) (p_num f il 0 1023 (p_h1 f il))
def p_h3 (f : RT) (il : Nat) : PS RT := p_set 1 (p_lkV f il 0 20 (p_h2 f il)) (p_num f il 0 20 (p_h2 f il))
def p_h4 (f : RT) (il : Nat) : PS RT := p_set 2 (p_lkV f il 0 20 (p_h3 f il)) (p_num f il 0 20 (p_h3 f il))
def p_h5 (f : RT) (il : Nat) : PS RT := p_set 3 (p_lkV f il 0 20 (p_h4 f il)) (p_lk f il 0 20 (p_h4 f il))
def p_h6 (f : RT) (il : Nat) : PS RT := p_nxt f il (p_chk f il (0 < m_allOdds (p_h5 f il).1) 2 (p_h5 f il))
def p_head (f : RT) (il : Nat) : PS RT := p_fin f il (p_h6 f il)
def p_all (f : RT) (il : Nat) : PS RT := p_lp f il 601 (p_head f il)


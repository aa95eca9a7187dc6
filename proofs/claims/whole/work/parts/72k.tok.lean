/-! THE PURE EQUIVALENCE: the parsers, token by token; f the class's bytes, f' the model's -/
theorem q_run_congr {P : Int32 → Bool} {f f' : RT} : ∀ (k i : Nat), (∀ j, i ≤ j → j < i + k → f j = f' j) → q_run P f k i = q_run P f' k i
  | 0, _, _ => rfl
  | k + 1, i, h => by
    rw [q_run, q_run, h i (Nat.le_refl _) (by omega), q_run_congr k (i + 1) (fun j a b => h j (by omega) (by omega))]
section TOK
variable {f f' : RT} {il : Nat}
theorem tS_c (HF : ∀ j, j < il → f j = f' j) (e : Nat) : tS f' il e = tS f il e := (q_run_congr _ _ (fun j a b => HF j (by omega))).symm
theorem tK_c (HF : ∀ j, j < il → f j = f' j) (e : Nat) : tK f' il e = tK f il e := by
  unfold tK
  rw [tS_c HF]
  by_cases c : il ≤ tS f il e
  · rw [if_pos c, if_pos c]
  · rw [if_neg c, if_neg c, HF _ (by omega)]
theorem tE_c (HF : ∀ j, j < il → f j = f' j) (e : Nat) : tE f' il e = tE f il e := by
  unfold tE
  rw [tS_c HF, tK_c HF]
  have h : ∀ P : Int32 → Bool, q_run P f' (il - tS f il e) (tS f il e) = q_run P f (il - tS f il e) (tS f il e) := fun P => (q_run_congr _ _ (fun j a b => HF j (by omega))).symm
  rw [h, h]
theorem tL_c (HF : ∀ j, j < il → f j = f' j) (e : Nat) : tL f' il e = tL f il e := by
  unfold tL
  rw [tS_c HF, tK_c HF, tE_c HF]
theorem tIs_c (HF : ∀ j, j < il → f j = f' j) {e : Nat} (he : e ≤ il) (i : Nat) (hi : i < 10) : tIs f' il e (i + 10) ↔ tIs f il e i := by
  have hn : ∀ i, i < 10 → SKn.getD (i + 10) 0 = SKn.getD i 0 := by decide
  have hb : ∀ i, i < 10 → SKb.getD (i + 10) [] = SKb.getD i [] := by decide +kernel
  have hs : ∀ j, sk_ch (i + 10) j = sk_ch i j := fun j => by rw [sk_ch, sk_ch, hb i hi]
  unfold tIs
  rw [hn i hi, tK_c HF, tL_c HF, tS_c HF]
  have hl := tL_le f il e he
  constructor
  · intro ⟨a, b, c⟩
    exact ⟨a, b, fun j hj => by rw [HF _ (by omega), c j hj, hs]⟩
  · intro ⟨a, b, c⟩
    exact ⟨a, b, fun j hj => by rw [← HF _ (by omega), c j hj, hs]⟩
/-- the model's value and the class's -/
def VW (v w : Int32) : Prop := (v = w ∧ ∃ x, x < 1000000 ∧ v = nI x) ∨ (w = 1000000 ∧ ∃ x, 1000000 ≤ x ∧ x ≤ 999999999 ∧ v = nI x)
theorem VW.step {f : RT} {j : Nat} {v w : Int32} (h : VW v w) (hd : q_dig (f j)) : VW (q_dv f j v) (q_dw f j w) := by
  obtain ⟨c, c1, c2⟩ := dig_nat hd
  have ar : ∀ x, 10 * nI x + nI (48 + c) - 48 = nI (10 * x + c) := fun x => by
    rw [show (10 : Int32) = nI 10 from rfl, pk_mul, nI_add, show (48 : Int32) = nI 48 from rfl, pk_sub (by omega), show 10 * x + (48 + c) - 48 = 10 * x + c by omega]
  rcases h with ⟨rfl, x, x1, rfl⟩ | ⟨rfl, x, x1, x2, rfl⟩
  · rw [q_dv, q_dw, c2, if_pos (show nI x ≤ (99999999 : Int32) from nI_le (b := 99999999) (by omega) (by decide)), ar]
    by_cases q : 10 * x + c < 1000000
    · rw [if_pos (show nI (10 * x + c) < (1000000 : Int32) from nI_lt (b := 1000000) q (by decide))]
      exact Or.inl ⟨rfl, _, q, rfl⟩
    · rw [if_neg (show ¬ nI (10 * x + c) < (1000000 : Int32) from nI_nlt (b := 1000000) (by omega) (by omega))]
      exact Or.inr ⟨rfl, _, by omega, by omega, rfl⟩
  · rw [q_dv, q_dw, c2, show (1000000 : Int32) = nI 1000000 from rfl, ar, ar, if_neg (nI_nlt (by omega) (by omega))]
    by_cases q : x ≤ 99999999
    · rw [if_pos (show nI x ≤ (99999999 : Int32) from nI_le (b := 99999999) q (by decide))]
      exact Or.inr ⟨rfl, _, by omega, by omega, rfl⟩
    · rw [if_neg (show ¬ nI x ≤ (99999999 : Int32) from fun d => q ((nI_leI (b := 99999999) (by omega) (by decide)).mp d))]
      exact Or.inr ⟨rfl, x, x1, x2, rfl⟩
theorem VW_tok (HF : ∀ j, j < il → f j = f' j) {e : Nat} (he : e ≤ il) (hk : tK f il e = 2) : VW (tV f' il e) (tW f il e) := by
  rw [tV, tW, tK_c HF, tS_c HF, tE_c HF, if_pos hk, if_pos hk]
  have hE := tE_le f il e he
  have hdig : ∀ j, tS f il e ≤ j → j < tE f il e → q_dig (f j) := fun j a b => by
    have e1 : tE f il e = q_run (fun x => decide (q_dig x)) f (il - tS f il e) (tS f il e) := by rw [tE, if_neg (by omega), if_neg (by omega), if_pos hk]
    rw [e1] at b
    exact of_decide_eq_true (q_run_all (P := fun x => decide (q_dig x)) _ _ j a b)
  refine fo_rel VW (tE f il e - tS f il e) (tS f il e) 0 0 (Or.inl ⟨rfl, 0, by decide, rfl⟩) (fun j v w a b hR => ?_)
  have hd := hdig j a (by omega)
  have := hR.step hd
  rw [q_dv, HF j (by omega)] at this
  exact this
theorem VW.rng {v w : Int32} (h : VW v w) {a b : Nat} (hb : b < 1000000) : (¬ v < nI a ∧ ¬ nI b < v) ↔ (¬ w < nI a ∧ ¬ nI b < w) := by
  rcases h with ⟨rfl, -⟩ | ⟨rfl, x, x1, x2, rfl⟩
  · exact Iff.rfl
  · have e1 : nI b < nI x := nI_lt (by omega) (by omega)
    have e2 : nI b < (1000000 : Int32) := nI_lt (b := 1000000) hb (by decide)
    exact ⟨fun c => absurd e1 c.2, fun c => absurd e2 c.2⟩
theorem VW.val {v w : Int32} (h : VW v w) {a b : Nat} (ha : a < 1000000) (hb : b < 1000000) (hr : ¬ v < nI a ∧ ¬ nI b < v) : v = w ∧ ∃ x, a ≤ x ∧ x ≤ b ∧ w = nI x := by
  rcases h with ⟨rfl, x, x1, rfl⟩ | ⟨rfl, x, x1, x2, rfl⟩
  · refine ⟨rfl, x, ?_, ?_, rfl⟩
    · rcases Nat.lt_or_ge x a with q | q
      · exact absurd (nI_lt q (by omega)) hr.1
      · exact q
    · rcases Nat.lt_or_ge b x with q | q
      · exact absurd (nI_lt q (by omega)) hr.2
      · exact q
  · exact absurd (nI_lt (a := b) (b := x) (by omega) (by omega)) hr.2
/-- same place, same code; alike while without an error -/
def QP (il : Nat) (A : CT → RT → Prop) (t : PS RT) (u : PS CT) : Prop := t.2 = u.2 ∧ t.2.1 ≤ il ∧ (t.2.2.1 = 0 → A u.1 t.1)
variable {A : CT → RT → Prop} {t : PS RT} {u : PS CT}
theorem QP.e1 (h : QP il A t u) : t.2.1 = u.2.1 := congrArg Prod.fst h.1
theorem QP.ec (h : QP il A t u) : t.2.2.1 = u.2.2.1 := congrArg (fun x : Nat × Int32 × Int32 => x.2.1) h.1
theorem QP.chk (HF : ∀ j, j < il → f j = f' j) (h : QP il A t u) {P P' : Prop} [Decidable P] [Decidable P'] (w : Int32) (hw : ¬ w = 0) (hP : t.2.2.1 = 0 → (P ↔ P')) : QP il A (p_chk f' il P w t) (p_chk f il P' w u) := by
  have ec := h.ec
  by_cases hc : t.2.2.1 = 0
  · have hc' : u.2.2.1 = 0 := ec ▸ hc
    by_cases p : P
    · rw [p_chk_t p, p_chk_t ((hP hc).mp p)]; exact h
    · rw [p_chk_f hc p, p_chk_f hc' (fun q => p ((hP hc).mpr q))]
      exact ⟨by rw [tS_c HF, h.e1], h.2.1, fun q => absurd q hw⟩
  · rw [p_chk_z hc, p_chk_z (by rw [← ec]; exact hc)]; exact h
theorem QP.nxt (HF : ∀ j, j < il → f j = f' j) (h : QP il A t u) : QP il A (p_nxt f' il t) (p_nxt f il u) := by
  have ec := h.ec
  by_cases hc : t.2.2.1 = 0
  · have hc' : u.2.2.1 = 0 := ec ▸ hc
    have h2 : t.2.2 = u.2.2 := congrArg Prod.snd h.1
    rw [p_nxt_pos hc, p_nxt_pos hc']
    refine ⟨?_, (tE_le f' il _ h.2.1).2, h.2.2⟩
    show (tE f' il t.2.1, t.2.2) = (tE f il u.2.1, u.2.2)
    rw [tE_c HF, h.e1, h2]
  · rw [p_nxt_z hc, p_nxt_z (by rw [← ec]; exact hc)]; exact h
theorem QP.tk (HF : ∀ j, j < il → f j = f' j) (h : QP il A t u) : QP il A (p_tk f' il t) (p_tk f il u) := h.chk HF 1 (by decide) (fun _ => by rw [tK_c HF, h.e1])
theorem QP.wd (HF : ∀ j, j < il → f j = f' j) (h : QP il A t u) : QP il A (p_wd f' il t) (p_wd f il u) := h.chk HF 1 (by decide) (fun _ => by rw [tK_c HF, h.e1])
theorem QP.sc (HF : ∀ j, j < il → f j = f' j) (h : QP il A t u) : QP il A (p_sc f' il t) (p_sc f il u) := h.chk HF 1 (by decide) (fun _ => by
  unfold p_semi
  rw [tK_c HF, tS_c HF, h.e1]
  constructor
  · intro ⟨a, b⟩
    exact ⟨a, by rw [HF _ (tK_pos f il _ (by omega))]; exact b⟩
  · intro ⟨a, b⟩
    exact ⟨a, by rw [← HF _ (tK_pos f il _ (by omega))]; exact b⟩)
theorem QP.lk (HF : ∀ j, j < il → f j = f' j) (h : QP il A t u) {a b : Nat} (hb : b < 1000000) : QP il A (p_lk f' il (nI a) (nI b) t) (p_lkG f il (tW f il u.2.1) (nI a) (nI b) u) := by
  rw [p_lk, p_tk_e, p_lkG, p_lkG]
  refine (h.tk HF).chk HF 2 (by decide) (fun hc => ?_)
  obtain ⟨-, hk, -⟩ := p_chk_l (by decide) hc
  rw [← h.e1]
  rw [tK_c HF] at hk
  exact (VW_tok HF h.2.1 hk).rng hb
/-- the class stands a token behind -/
abbrev QN (f : RT) (il : Nat) (A : CT → RT → Prop) (t : PS RT) (t' : PS CT) : Prop := QP il A t (p_nxt f il t')
variable {t' : PS CT}
theorem QN.num (HF : ∀ j, j < il → f j = f' j) (h : QN f il A t t') {a b : Nat} (hb : b < 1000000) : QN f il A (p_num f' il (nI a) (nI b) t) (c_num f il t' (nI a) (nI b)) := (h.lk HF hb).nxt HF
theorem QN.val (HF : ∀ j, j < il → f j = f' j) (h : QN f il A t t') {a b : Nat} (ha : a < 1000000) (hb : b < 1000000) (hc : (p_num f' il (nI a) (nI b) t).2.2.1 = 0) : p_lkV f' il (nI a) (nI b) t = tW f il (c_num f il t' (nI a) (nI b)).2.1 ∧ ∃ x, a ≤ x ∧ x ≤ b ∧ tW f il (c_num f il t' (nI a) (nI b)).2.1 = nI x := by
  obtain ⟨-, hk, hr, -⟩ := p_num_l hc
  rw [p_lkV_l hc]
  have e : (c_num f il t' (nI a) (nI b)).2.1 = t.2.1 := by rw [c_num, p_lkG, p_chk_e, p_tk_e, ← h.e1]
  rw [e]
  rw [tK_c HF] at hk
  exact (VW_tok HF h.2.1 hk).val ha hb hr
theorem QN.fin (HF : ∀ j, j < il → f j = f' j) (h : QN f il A t t') : QN f il A (p_fin f' il t) (c_sem f il t') := (h.sc HF).nxt HF
/-- what is built changes, behind what was read -/
theorem QP.out {B : CT → RT → Prop} (h : QP il A t u) {g : RT} {S : CT} (hB : t.2.2.1 = 0 → A u.1 t.1 → B S g) : QP il B (if t.2.2.1 = 0 then (g, t.2) else t) (if u.2.2.1 = 0 then (S, u.2) else u) := by
  have ec := h.ec
  by_cases hc : t.2.2.1 = 0
  · rw [if_pos hc, if_pos (ec ▸ hc)]
    exact ⟨h.1, h.2.1, fun _ => hB hc (h.2.2 hc)⟩
  · rw [if_neg hc, if_neg (by rw [← ec]; exact hc)]
    exact ⟨h.1, h.2.1, fun q => absurd q hc⟩
theorem QN.out {B : CT → RT → Prop} (h : QN f il A t t') {g : RT} {S : CT} (hB : t.2.2.1 = 0 → A t'.1 t.1 → B S g) : QN f il B (if t.2.2.1 = 0 then (g, t.2) else t) (if t'.2.2.1 = 0 then (S, t'.2) else t') := by
  have ec : t.2.2.1 = t'.2.2.1 := h.ec.trans p_nxt_c
  by_cases hc : t.2.2.1 = 0
  · have hc' : t'.2.2.1 = 0 := ec ▸ hc
    rw [if_pos hc, if_pos hc']
    have h1 := h.1
    rw [p_nxt_pos hc'] at h1
    show QP il B _ (p_nxt f il (S, t'.2))
    rw [p_nxt_pos (t := (S, t'.2)) hc']
    exact ⟨h1, h.2.1, fun _ => hB hc (by have := h.2.2 hc; rw [p_nxt_g] at this; exact this)⟩
  · have hc' : ¬ t'.2.2.1 = 0 := by rw [← ec]; exact hc
    rw [if_neg hc, if_neg hc']
    exact ⟨h.1, h.2.1, fun q => absurd q hc⟩
theorem QP.err {B : CT → RT → Prop} (h : QP il A t u) (hc : ¬ t.2.2.1 = 0) : QN f il B t u := by
  have hc' : ¬ u.2.2.1 = 0 := by rw [← h.ec]; exact hc
  show QP il B t (p_nxt f il u)
  rw [p_nxt_z hc']
  exact ⟨h.1, h.2.1, fun q => absurd q hc⟩
-- names
theorem tok_nm (HF : ∀ j, j < il → f j = f' j) {e : Nat} (he : e ≤ il) (hk : tK f il e = 3) : NR (b_nm f il (tS f il e) (tE f il e)) (q_nm f' (tS f il e) (tL f il e)) ∨ (b_nm f il (tS f il e) (tE f il e) = 0 ∧ q_nm f' (tS f il e) (tL f il e) = -1) := by
  have hE := tE_le f il e he
  have hl : tL f il e = tE f il e - tS f il e := by rw [tL, if_pos hk]
  have hq : q_nm f' (tS f il e) (tL f il e) = q_nm f (tS f il e) (tL f il e) := (q_nm_congr (fun i hi => HF _ (by omega))).symm
  rw [hq]
  have := nm_alt f il (tS f il e) (tL f il e) (by omega)
  rw [show tS f il e + tL f il e = tE f il e by omega] at this
  rcases this with ⟨-, -, -, h⟩ | ⟨-, h1, h2⟩
  · exact Or.inl h
  · exact Or.inr ⟨h1, h2⟩
theorem SP.vm1 {S : CT} {g : RT} {bc vc fc mc : Nat} (h : SP S g bc vc fc mc) : m_vn g (-1) vc = -1 := fnd_no vc 0 (fun j _ hj => decide_eq_false (h.2.1 j (by omega)).ne.2)
/-- the names at a word that both parsers stand on -/
theorem QP.nm (HF : ∀ j, j < il → f j = f' j) (h : QP il A t u) (hc : (p_wd f' il t).2.2.1 = 0) : NR (c_nm f il (p_wd f il u)) (p_nm f' il (p_wd f' il t)) ∨ (c_nm f il (p_wd f il u) = 0 ∧ p_nm f' il (p_wd f' il t) = -1) := by
  obtain ⟨-, hk, -⟩ := p_chk_l (by decide) hc
  rw [tK_c HF] at hk
  have e1 : (p_wd f' il t).2.1 = t.2.1 := p_chk_e _ _ _ _ _
  have e2 : (p_wd f il u).2.1 = t.2.1 := (p_chk_e _ _ _ _ _).trans h.e1.symm
  rw [c_nm, p_nm, e1, e2, tS_c HF, tL_c HF]
  exact tok_nm HF h.2.1 hk
end TOK

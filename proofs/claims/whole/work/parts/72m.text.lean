/-! THE PURE EQUIVALENCE: say, retract, pass; the whole text -/
section STM2
variable {f f' : RT} {il D : Nat} {A B : CT → RT → Prop} {t : PS RT} {t' u : PS CT}
theorem QP.imp (h : QP il A t u) (k : t.2.2.1 = 0 → A u.1 t.1 → B u.1 t.1) : QP il B t u := ⟨h.1, h.2.1, fun hc => k hc (h.2.2 hc)⟩
theorem QP.whV (HF : ∀ j, j < il → f j = f' j) (h : QP il A t u) : p_whV f' il t = c_whV f il u := by
  unfold p_whV c_whV
  rw [← h.e1]
  have e5 := tIs_c HF h.2.1 5 (by decide)
  have e6 := tIs_c HF h.2.1 6 (by decide)
  have e7 := tIs_c HF h.2.1 7 (by decide)
  by_cases c5 : tIs f il t.2.1 5
  · rw [if_pos (e5.mpr c5), if_pos c5]
  · rw [if_neg (fun q => c5 (e5.mp q)), if_neg c5]
    by_cases c6 : tIs f il t.2.1 6
    · rw [if_pos (e6.mpr c6), if_pos c6]
    · rw [if_neg (fun q => c6 (e6.mp q)), if_neg c6]
      by_cases c7 : tIs f il t.2.1 7
      · rw [if_pos (e7.mpr c7), if_pos c7]
      · rw [if_neg (fun q => c7 (e7.mp q)), if_neg c7]
theorem live_sc {T : PS RT} (eT : T = p_sc f' il t) (hc : T.2.2.1 = 0) : t.2.2.1 = 0 := by
  subst eT
  exact (p_chk_l (by decide) hc).1
theorem live_wh {T : PS RT} (eT : T = p_wh f' il t) (hc : T.2.2.1 = 0) : t.2.2.1 = 0 := by
  subst eT
  exact (p_wh_l hc).1
theorem QP.sayA (HF : ∀ j, j < il → f j = f' j) (h : QP il (SR D) t u) : QP il (SR D) (p_s3 f' il t) (c_s3 f il u) := by
  have q1 : QN f il (SR D) (p_s1 f' il t) u := h.nxt HF
  have q2 := q1.vh' HF (T := p_s2 f' il t) (U := c_s1 f il u) rfl rfl
  exact q2.num' HF (T := p_s3 f' il t) (U := c_s2 f il u) (a := 0) (b := 9999) (lo := 0) (hi := 9999) rfl rfl rfl rfl (by decide)
theorem QP.sayB (HF : ∀ j, j < il → f j = f' j) (h : QP il (SR D) t u) : QP il (SR D) (p_s5 f' il t) (c_s5 f il u) := by
  have q3 := h.sayA HF
  have hw := q3.whV HF
  have q4 : QP il (SR D) (p_wh1 f' il (p_s3 f' il t)) (c_s4 f il u) := by
    rw [p_wh1, c_s4]
    exact q3.chk HF 1 (by decide) (fun _ => by rw [hw])
  have q5 : QN f il (SR D) (p_s4 f' il t) (c_s4 f il u) := by
    rw [p_s4, p_wh]
    exact q4.nxt HF
  rw [p_s5, c_s5, c_sem]
  exact q5.sc HF
theorem QP.sayK (HF : ∀ j, j < il → f j = f' j) (h : QP il (SR D) t u) (hc : (p_s5 f' il t).2.2.1 = 0) : c_kvV f il (c_s1 f il u) = p_vhV f' il (p_s1 f' il t) ∧ (∃ w, w < m_vc t.1 ∧ p_vhV f' il (p_s1 f' il t) = nI w) ∧ tW f il (c_s2 f il u).2.1 = p_lkV f' il 0 9999 (p_s2 f' il t) := by
  have q1 : QN f il (SR D) (p_s1 f' il t) u := h.nxt HF
  have q2 := q1.vh' HF (T := p_s2 f' il t) (U := c_s1 f il u) rfl rfl
  have l4 : (p_s4 f' il t).2.2.1 = 0 := live_sc (f' := f') (il := il) (T := p_s5 f' il t) (t := p_s4 f' il t) rfl hc
  have l3 : (p_s3 f' il t).2.2.1 = 0 := live_wh (f' := f') (il := il) (T := p_s4 f' il t) (t := p_s3 f' il t) rfl l4
  have l2 : (p_s2 f' il t).2.2.1 = 0 := live_num (f' := f') (il := il) (lo := 0) (hi := 9999) (T := p_s3 f' il t) (t := p_s2 f' il t) rfl l3
  obtain ⟨k1, w, w1, w2⟩ := q1.vhV' HF (T := p_s2 f' il t) (U := c_s1 f il u) rfl rfl l2
  obtain ⟨x, -, -, v1, v2⟩ := q2.val' HF (T := p_s3 f' il t) (U := c_s2 f il u) (a := 0) (b := 9999) (lo := 0) (hi := 9999) rfl rfl rfl rfl (by decide) (by decide) l3
  rw [p_s1, p_nxt_g] at w1
  exact ⟨k1, ⟨w, w1, w2⟩, v2.trans v1.symm⟩
theorem QP.sayC (HF : ∀ j, j < il → f j = f' j) (h : QP il (SR D) t u) (hD : D ≤ 1000000) : QP il (SR D) (p_s6 f' il t) (c_s6 f il u) := by
  have q6 := h.sayB HF
  rw [p_s6, c_s6]
  refine q6.chk HF 6 (by decide) (fun hc => ?_)
  obtain ⟨k1, -, k3⟩ := h.sayK HF hc
  obtain ⟨hX, hY⟩ := (q6.2.2 hc).xc
  rw [k1, k3, hX.cS.1, hX.why hY hD]
theorem QP.rs (HF : ∀ j, j < il → f j = f' j) (h : QP il (SR D) t u) (hD : D ≤ 1000000) : QN f il (SR D) (p_rs f' il t) (c_rs f il u) := by
  have hw := (h.sayA HF).whV HF
  have q7 := h.sayC HF hD
  have q8 : QP il (SR D) (p_s7 f' il t) (c_rs f il u) := by
    rw [p_s7, c_rs]
    refine q7.out (fun hc hA => ?_)
    obtain ⟨-, a1, -, a2, -, -, -, a3⟩ := p_s6_l hc
    obtain ⟨k1, ⟨w, w1, w2⟩, k3⟩ := h.sayK HF a3
    obtain ⟨hX, hY⟩ := hA.xc
    rw [← a1, w2] at a2
    rw [← a1] at w1
    rw [k1, k3, hX.cS.1, hw, w2]
    obtain ⟨r1, r2⟩ := hX.prints (c_whV f il (c_s3 f il u)) w1 a2 hY hD
    exact r1.sr r2
  rw [p_rs]
  exact q8.nxt HF
theorem refund_nat {g : RT} {bc vc fc : Nat} (h : PT g bc vc fc) : ∀ (n i a : Nat), i + n ≤ bc → ∃ x, x ≤ a + 1980 * n ∧ fo (fun k s => s + g (76 + 5 * k)) i n (nI a) = nI x
  | 0, _, a, _ => ⟨a, by omega, rfl⟩
  | n + 1, i, a, hi => by
    obtain ⟨s, p, s1, s2, -, s4⟩ := h.2.2.1 i (by omega)
    obtain ⟨x, x1, x2⟩ := refund_nat h n (i + 1) (a + p) (by omega)
    refine ⟨x, by omega, ?_⟩
    rw [fo, s4, nI_add]
    exact x2
theorem refund_nn {g : RT} {bc vc fc : Nat} (h : PT g bc vc fc) (pg : Nat) (hp : 4 * pg < bc) : 0 ≤ m_refund g pg bc := by
  obtain ⟨x, x1, x2⟩ := refund_nat h (min bc (4 * pg + 4) - 4 * pg) (4 * pg) 0 (by omega)
  have : m_refund g pg bc = nI x := x2
  rw [this]
  exact nI_pos' (by omega)
theorem QP.rr (HF : ∀ j, j < il → f j = f' j) (h : QP il (SR D) t u) : QN f il (SR D) (p_rr f' il t) (c_rr f il u) := by
  have q1 : QP il (SR D) (p_r1 f' il t) (p_nxt f il u) := h.nxt HF
  have q2 : QP il (SR D) (p_r2 f' il t) (c_r1 f il u) := q1.tk HF
  have vw : (p_r2 f' il t).2.2.1 = 0 → VW (tV f' il (p_r2 f' il t).2.1) (tW f il (c_r1 f il u).2.1) := fun hc => by
    have hc' := hc
    rw [p_r2] at hc'
    obtain ⟨-, hk, -⟩ := p_chk_l (by decide) hc'
    have e : (p_r2 f' il t).2.1 = (p_r1 f' il t).2.1 := by rw [p_r2, p_chk_e]
    rw [← q2.e1]
    rw [tK_c HF, ← e] at hk
    exact VW_tok HF q2.2.1 hk
  have q3 : QP il (SR D) (p_r3 f' il t) (c_r2 f il u) := by
    rw [p_r3, c_r2]
    refine q2.chk HF 4 (by decide) (fun hc => ?_)
    obtain ⟨hX, -⟩ := (q2.2.2 hc).xc
    have hb := hX.b
    rw [hX.cS.1]
    rcases vw hc with ⟨e, x, x1, x2⟩ | ⟨e, x, x1, x2, x3⟩
    · rw [← e, x2]
      exact ⟨fun q => ⟨nI_nneg (by omega), q⟩, fun q => q.2⟩
    · rw [e, x3]
      exact ⟨fun q => absurd q (nI_nlt (by omega) (by omega)), fun q => absurd q.2 (show ¬ (1000000 : Int32) < nI ((m_bc (p_r2 f' il t).1 + 4 - 1) / 4) from nI_nlt (a := 1000000) (by omega) (by decide))⟩
  have pos : (c_r1 f il u).2.1 = (p_r3 f' il t).2.1 := by rw [p_r3, p_chk_e, ← q2.e1]
  have tv : (p_r3 f' il t).2.2.1 = 0 → GI t.1 → tW f il (c_r1 f il u).2.1 = p_rV f' il t ∧ 4 * cl (p_rV f' il t) < m_bc t.1 := fun hc hG => by
    obtain ⟨-, -, a3, a4, -⟩ := p_r3_l hc
    obtain ⟨b1, b2⟩ := p_rV_l hc hG
    have hb := hG.1.2
    refine ⟨?_, b2⟩
    have hc2 : (p_r2 f' il t).2.2.1 = 0 := by
      have hc' := hc
      rw [p_r3] at hc'
      exact (p_chk_l (by decide) hc').1
    have e : (p_r3 f' il t).2.1 = (p_r2 f' il t).2.1 := by rw [p_r3, p_chk_e]
    have v := vw hc2
    rw [← e, ← a3] at v
    rcases v with ⟨e, -⟩ | ⟨e, x, x1, x2, x3⟩
    · exact e.symm
    · rw [x3] at a4
      exact absurd a4 (nI_nlt (by omega) (by omega))
  have q4 : QP il (SR D) (p_r4 f' il t) (c_r3 f il u) := by
    rw [p_r4, c_r3]
    refine q3.chk HF 6 (by decide) (fun hc => ?_)
    have hA := q3.2.2 hc
    obtain ⟨hX, -⟩ := hA.xc
    have eg : (p_r3 f' il t).1 = t.1 := p_r3_g
    obtain ⟨t1, -⟩ := tv hc (by rw [← eg]; exact hA.2.1)
    have h4 : (c_r2 f il u).1 16 1 = (p_r3 f' il t).1 4 := hX.1.c16 1 (by decide)
    rw [t1, hX.cS.1, hX.refund, h4]
    exact ⟨fun q => Int32.not_lt.mpr q, fun q => Int32.not_lt.mp q⟩
  have q5 : QN f il (SR D) (p_nxt f' il (p_r4 f' il t)) (c_r3 f il u) := q4.nxt HF
  have q6 := q5.fin' HF (T := p_r5 f' il t) (U := c_r4 f il u) rfl rfl
  have facts : (p_r5 f' il t).2.2.1 = 0 → SR D (c_r4 f il u).1 (p_r5 f' il t).1 → tW f il (c_r1 f il u).2.1 = p_rV f' il t ∧ 4 * cl (p_rV f' il t) < m_bc (p_r5 f' il t).1 := fun hc hA => by
    obtain ⟨a1, a2, -, -⟩ := p_r5_l hc
    obtain ⟨t1, t2⟩ := tv a1 (by rw [← a2]; exact hA.2.1)
    rw [a2]
    exact ⟨t1, t2⟩
  have erw : p_rr f' il t = if (p_r5 f' il t).2.2.1 = 0 then (m_retracts (p_r5 f' il t).1 (cl (p_rV f' il t)) (m_bc (p_r5 f' il t).1), (p_r5 f' il t).2) else p_r5 f' il t := by
    rw [p_rr]
    by_cases hc : (p_r5 f' il t).2.2.1 = 0
    · have hA := q6.2.2 hc
      rw [p_nxt_g] at hA
      obtain ⟨t1, t2⟩ := facts hc hA
      rw [if_pos hc, if_pos hc, if_pos (refund_nn hA.xc.1.2.2 _ t2)]
    · rw [if_neg hc, if_neg hc]
  rw [erw, c_rr]
  refine q6.out (fun hc hA => ?_)
  obtain ⟨t1, t2⟩ := facts hc hA
  obtain ⟨hX, hY⟩ := hA.xc
  rw [t1, hX.cS.1, hX.cS.2.1]
  obtain ⟨b, r1, r2⟩ := hX.retracts t2 hY
  exact r1.sr r2
theorem QP.rp (HF : ∀ j, j < il → f j = f' j) (h : QP il (SR D) t u) : QN f il (SR (D + 200)) (p_rp f' il t) (c_rp f il u) := by
  have q1 : QN f il (SR D) (p_p1 f' il t) u := h.nxt HF
  have q2 := q1.num' HF (T := p_num f' il 0 200 (p_p1 f' il t)) (U := c_p1 f il u) (a := 0) (b := 200) (lo := 0) (hi := 200) rfl rfl rfl rfl (by decide)
  have q3 := q2.fin' HF (T := p_p2 f' il t) (U := c_p2 f il u) rfl rfl
  rw [p_rp, c_rp]
  refine q3.out (fun hc hA => ?_)
  have l1 : (p_num f' il 0 200 (p_p1 f' il t)).2.2.1 = 0 := live_fin (f' := f') (il := il) (T := p_p2 f' il t) (t := p_num f' il 0 200 (p_p1 f' il t)) rfl hc
  obtain ⟨x, -, x2, v1, v2⟩ := q1.val' HF (T := p_num f' il 0 200 (p_p1 f' il t)) (U := c_p1 f il u) (a := 0) (b := 200) (lo := 0) (hi := 200) rfl rfl rfl rfl (by decide) (by decide) l1
  rw [v1, v2, cl_n (by omega)]
  exact (hA.days x).mono (by omega)
theorem QP.st (HF : ∀ j, j < il → f j = f' j) (h : QP il (SR D) t u) (hD : D ≤ 900000) : QN f il (SR (D + 200)) (p_st f' il t) (c_st f il u) := by
  have up : ∀ {T : PS RT} {U : PS CT}, QP il (SR D) T U → QP il (SR (D + 200)) T U := fun k => k.imp (fun _ r => r.mono (by omega))
  unfold p_st c_st
  rw [← h.e1]
  have e2 := tIs_c HF h.2.1 2 (by decide)
  have e3 := tIs_c HF h.2.1 3 (by decide)
  have e4 := tIs_c HF h.2.1 4 (by decide)
  have e8 := tIs_c HF h.2.1 8 (by decide)
  have e9 := tIs_c HF h.2.1 9 (by decide)
  by_cases c2 : tIs f il t.2.1 2
  · rw [if_pos (e2.mpr c2), if_pos c2]; exact up (h.rv HF)
  · rw [if_neg (fun q => c2 (e2.mp q)), if_neg c2]
    by_cases c3 : tIs f il t.2.1 3
    · rw [if_pos (e3.mpr c3), if_pos c3]; exact up (h.rf HF)
    · rw [if_neg (fun q => c3 (e3.mp q)), if_neg c3]
      by_cases c4 : tIs f il t.2.1 4
      · rw [if_pos (e4.mpr c4), if_pos c4]; exact up (h.rs HF (by omega))
      · rw [if_neg (fun q => c4 (e4.mp q)), if_neg c4]
        by_cases c8 : tIs f il t.2.1 8
        · rw [if_pos (e8.mpr c8), if_pos c8]; exact up (h.rr HF)
        · rw [if_neg (fun q => c8 (e8.mp q)), if_neg c8]
          by_cases c9 : tIs f il t.2.1 9
          · rw [if_pos (e9.mpr c9), if_pos c9]; exact h.rp HF
          · rw [if_neg (fun q => c9 (e9.mp q)), if_neg c9]
            have q := h.chk HF (P := False) (P' := False) 1 (by decide) (fun _ => Iff.rfl)
            refine q.err (fun hc => ?_)
            exact (p_chk_l (by decide) hc).2.1
end STM2
theorem QP.lp {f f' : RT} {il : Nat} (HF : ∀ j, j < il → f j = f' j) : ∀ (n D : Nat) (t : PS RT) (u : PS CT), QP il (SR D) t u → D + 200 * n ≤ 900000 → QP il (SR (D + 200 * n)) (p_lp f' il n t) (c_lp f il n u)
  | 0, _, _, _, h, _ => h
  | n + 1, D, t, u, h, hD => by
    rw [p_lp, c_lp]
    by_cases c : t.2.2.1 = 0 ∧ ¬ tK f' il t.2.1 = 0
    · have c' : u.2.2.1 = 0 ∧ ¬ tK f il u.2.1 = 0 := by
        rw [← h.ec, ← h.e1, ← tK_c HF]; exact c
      rw [if_pos c, if_pos c']
      have := QP.lp HF n (D + 200) _ _ (h.st HF (by omega)) (by omega)
      rw [show D + 200 * (n + 1) = D + 200 + 200 * n by omega]
      exact this
    · have c' : ¬ (u.2.2.1 = 0 ∧ ¬ tK f il u.2.1 = 0) := by
        rw [← h.ec, ← h.e1, ← tK_c HF]; exact c
      rw [if_neg c, if_neg c']
      exact h.imp (fun _ r => r.mono (by omega))
theorem p_lp_more {f : RT} {il : Nat} : ∀ (n : Nat) (t : PS RT), PI il t → il ≤ t.2.1 + n → p_lp f il (n + 1) t = p_lp f il n t
  | 0, t, hp, hn => by
    have hk : tK f il t.2.1 = 0 := by
      unfold tK
      have := tS_le f il t.2.1 hp.1
      rw [if_pos (by omega)]
    rw [p_lp_end (Or.inr hk)]
    rfl
  | n + 1, t, hp, hn => by
    by_cases hc : t.2.2.1 = 0
    · by_cases hk : tK f il t.2.1 = 0
      · rw [p_lp_end (Or.inr hk), p_lp_end (Or.inr hk)]
      · rw [p_lp_go (by omega) hc hk, p_lp_go (n := n + 1) (by omega) hc hk, show n + 1 + 1 - 1 = n + 1 by omega, show n + 1 - 1 = n by omega]
        by_cases hs : (p_st f il t).2.2.1 = 0
        · have := p_st_adv hp.1 hk hs
          exact p_lp_more n _ (PI_st hp) (by omega)
        · rw [p_lp_end (Or.inl hs), p_lp_end (Or.inl hs)]
    · rw [p_lp_end (Or.inl hc), p_lp_end (Or.inl hc)]

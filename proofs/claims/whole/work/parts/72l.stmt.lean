/-! THE PURE EQUIVALENCE: the statements of a text -/
section ADD
variable {S : CT} {g : RT} {bc vc fc mc : Nat}
theorem sp_nm0 (h : SP S g bc vc fc mc) (hb : bc ≤ 30) (hv : vc < 6) (hf : fc ≤ 6) (z x : Int32) : SP (us S 0 vc z) (upd g (24 + 3 * vc) x) bc vc fc mc := by
  refine ⟨fun r j ho r0 r3 => ?_, fun i hi => ?_, fun f hf' => ?_, fun k hk => ?_⟩
  · rw [us_row r0, pk_un (k := 24 + 3 * vc) (j := fw r j) (fun e => r0 (fw_inj (r := r) (j := j) (r' := 0) (j' := vc) (by unfold okc at ho ⊢; omega) (by unfold okc; omega) e).1)]
    exact h.1 r j ho r0 r3
  · rw [us_un (by omega), pk_un (by omega)]; exact h.2.1 i hi
  · rw [us_row (by decide), pk_un (by omega)]; exact h.2.2.1 f hf'
  · rw [us_row (by decide), pk_un (by omega), pk_un (by omega)]; exact h.2.2.2 k hk
theorem sp_nm3 (h : SP S g bc vc fc mc) (hb : bc ≤ 30) (hv : vc ≤ 6) (hf : fc < 6) (z x : Int32) : SP (us S 3 fc z) (upd g (42 + 5 * fc) x) bc vc fc mc := by
  refine ⟨fun r j ho r0 r3 => ?_, fun i hi => ?_, fun f hf' => ?_, fun k hk => ?_⟩
  · rw [us_row r3, pk_un (k := 42 + 5 * fc) (j := fw r j) (fun e => r3 (fw_inj (r := r) (j := j) (r' := 3) (j' := fc) (by unfold okc at ho ⊢; omega) (by unfold okc; omega) (e.trans (fw_3 fc).symm)).1)]
    exact h.1 r j ho r0 r3
  · rw [us_row (by decide), pk_un (by omega)]; exact h.2.1 i hi
  · rw [us_un (by omega), pk_un (by omega)]; exact h.2.2.1 f hf'
  · rw [us_row (by decide), pk_un (by omega), pk_un (by omega)]; exact h.2.2.2 k hk
theorem m_addV_ne (g : RT) (nm pe tr : Int32) (vc j : Nat) (h : j ≠ 6) (h1 : j < 24 + 3 * vc ∨ 27 + 3 * vc ≤ j) : m_addV g nm pe tr vc j = g j := by
  rw [m_addV, pk_un h, pk_un (by omega), pk_un (by omega), pk_un (by omega)]
theorem XC.vadd (h : XC S g bc vc fc mc) (hv : vc < 6) {z x : Int32} (hn : NR z x) {p t D v : Nat} (hp : p ≤ 99) (ht : t ≤ 100) (hd : DY D v g bc) : XC (s_vadd S z (nI p) (nI t) vc) (m_addV g x (nI p) (nI t) vc) bc (vc + 1) fc mc ∧ DY D v (m_addV g x (nI p) (nI t) vc) bc := by
  have hb := h.b
  have hf := h.f
  have hs : SP (s_vadd S z (nI p) (nI t) vc) (m_addV g x (nI p) (nI t) vc) bc vc fc mc :=
    (((sp_nm0 h.1 hb hv hf z x).upd hb h.v hf (by unfold okc; omega) (by decide) (by decide) (fw_1 vc) _).upd hb h.v hf (by unfold okc; omega) (by decide) (by decide) (fw_2 vc) _).upd hb h.v hf (Or.inl ⟨rfl, by decide⟩) (by decide) (by decide) rfl _
  have g0 : m_addV g x (nI p) (nI t) vc (24 + 3 * vc) = x := by rw [m_addV, pk_un (by omega), pk_un (by omega), pk_un (by omega), pk_us]
  have g1 : m_addV g x (nI p) (nI t) vc (25 + 3 * vc) = nI p := by rw [m_addV, pk_un (by omega), pk_un (by omega), pk_us]
  have g2 : m_addV g x (nI p) (nI t) vc (26 + 3 * vc) = nI t := by rw [m_addV, pk_un (by omega), pk_us]
  refine ⟨⟨⟨fun r j ho r0 r3 => ?_, fun i hi => ?_, hs.2.2.1, hs.2.2.2⟩, h.2.1.addV hv _ _ _, fun i hi => ?_, fun f hf' => ?_, fun k hk => ?_, fun j k hj hk => ?_⟩, ?_⟩
  · by_cases e : r < 3 ∧ j = vc
    · obtain ⟨e1, rfl⟩ := e
      rw [s_vadd, us_row (by omega)]
      rcases (show r = 1 ∨ r = 2 by omega) with rfl | rfl
      · rw [us_row (by decide), us_at, fw_1, g1]
      · rw [us_at, fw_2, g2]
    · exact hs.1 r j (by unfold okc at ho ⊢; omega) r0 r3
  · by_cases e : i = vc
    · subst e
      rw [s_vadd, us_row (by decide), us_row (by decide), us_row (by decide), us_at, g0]
      exact hn
    · exact hs.2.1 i (by omega)
  · by_cases e : i = vc
    · subst e
      exact ⟨⟨p, hp, g1⟩, t, ht, g2⟩
    · rw [m_addV_ne _ _ _ _ _ _ (by omega) (by omega), m_addV_ne _ _ _ _ _ _ (by omega) (by omega)]; exact h.2.2.1 i (by omega)
  · rw [m_addV_ne _ _ _ _ _ _ (by omega) (by omega), m_addV_ne _ _ _ _ _ _ (by omega) (by omega)]; exact h.2.2.2.1 f hf'
  · rw [m_addV_ne _ _ _ _ _ _ (by omega) (by omega), m_addV_ne _ _ _ _ _ _ (by omega) (by omega)]; exact h.2.2.2.2.1 k hk
  · rw [m_addV_ne _ _ _ _ _ _ (by omega) (by omega), m_addV_ne _ _ _ _ _ _ (by omega) (by omega), m_addV_ne _ _ _ _ _ _ (by omega) (by omega), m_addV_ne _ _ _ _ _ _ (by omega) (by omega)]; exact h.2.2.2.2.2 j k hj hk
  · rw [m_addV]
    exact (((hd.lo (by omega) (by omega) hb _).lo (by omega) (by omega) hb _).lo (by omega) (by omega) hb _).lo (by omega) (by omega) hb _
theorem m_addF_ne (g : RT) (nm vi pe st pr : Int32) (fc j : Nat) (h : j ≠ 7) (h1 : j < 42 + 5 * fc ∨ 47 + 5 * fc ≤ j) : m_addF g nm vi pe st pr fc j = g j := by
  rw [m_addF, pk_un h, pk_un (by omega), pk_un (by omega), pk_un (by omega), pk_un (by omega), pk_un (by omega)]
theorem XC.fadd (h : XC S g bc vc fc mc) (hf : fc < 6) {z x : Int32} (hn : NR z x) (vi : Int32) {pe st pr D v : Nat} (hpe : 1 ≤ pe ∧ pe ≤ 12) (hst : st ≤ 99) (hpr : pr ≤ 20) (hd : DY D v g bc) : XC (s_fadd S z vi (nI pe) (nI st) (nI pr) fc) (m_addF g x vi (nI pe) (nI st) (nI pr) fc) bc vc (fc + 1) mc ∧ DY D v (m_addF g x vi (nI pe) (nI st) (nI pr) fc) bc := by
  have hb := h.b
  have hv := h.v
  have hs : SP (s_fadd S z vi (nI pe) (nI st) (nI pr) fc) (m_addF g x vi (nI pe) (nI st) (nI pr) fc) bc vc fc mc :=
    (((((sp_nm3 h.1 hb hv hf z x).upd hb h.v h.f (by unfold okc; omega) (by decide) (by decide) (fw_4 fc) _).upd hb h.v h.f (by unfold okc; omega) (by decide) (by decide) (fw_5 fc) _).upd hb h.v h.f (by unfold okc; omega) (by decide) (by decide) (fw_6 fc) _).upd hb h.v h.f (by unfold okc; omega) (by decide) (by decide) (fw_7 fc) _).upd hb h.v h.f (Or.inl ⟨rfl, by decide⟩) (by decide) (by decide) rfl _
  have g0 : m_addF g x vi (nI pe) (nI st) (nI pr) fc (42 + 5 * fc) = x := by rw [m_addF, pk_un (by omega), pk_un (by omega), pk_un (by omega), pk_un (by omega), pk_un (by omega), pk_us]
  have g1 : m_addF g x vi (nI pe) (nI st) (nI pr) fc (43 + 5 * fc) = vi := by rw [m_addF, pk_un (by omega), pk_un (by omega), pk_un (by omega), pk_un (by omega), pk_us]
  have g2 : m_addF g x vi (nI pe) (nI st) (nI pr) fc (44 + 5 * fc) = nI pe := by rw [m_addF, pk_un (by omega), pk_un (by omega), pk_un (by omega), pk_us]
  have g3 : m_addF g x vi (nI pe) (nI st) (nI pr) fc (45 + 5 * fc) = nI st := by rw [m_addF, pk_un (by omega), pk_un (by omega), pk_us]
  have g4 : m_addF g x vi (nI pe) (nI st) (nI pr) fc (46 + 5 * fc) = nI pr := by rw [m_addF, pk_un (by omega), pk_us]
  refine ⟨⟨⟨fun r j ho r0 r3 => ?_, hs.2.1, fun f hf' => ?_, hs.2.2.2⟩, h.2.1.addF hf _ _ _ _ hpe, fun i hi => ?_, fun f hf' => ?_, fun k hk => ?_, fun j k hj hk => ?_⟩, ?_⟩
  · by_cases e : 3 ≤ r ∧ r < 8 ∧ j = fc
    · obtain ⟨e1, e2, rfl⟩ := e
      rw [s_fadd, us_row (by omega)]
      rcases (show r = 4 ∨ r = 5 ∨ r = 6 ∨ r = 7 by omega) with rfl | rfl | rfl | rfl
      · rw [us_row (by decide), us_row (by decide), us_row (by decide), us_at, fw_4, g1]
      · rw [us_row (by decide), us_row (by decide), us_at, fw_5, g2]
      · rw [us_row (by decide), us_at, fw_6, g3]
      · rw [us_at, fw_7, g4]
    · exact hs.1 r j (by unfold okc at ho ⊢; omega) r0 r3
  · by_cases e : f = fc
    · subst e
      rw [s_fadd, us_row (by decide), us_row (by decide), us_row (by decide), us_row (by decide), us_row (by decide), us_at, g0]
      exact hn
    · exact hs.2.2.1 f (by omega)
  · rw [m_addF_ne _ _ _ _ _ _ _ _ (by omega) (by omega), m_addF_ne _ _ _ _ _ _ _ _ (by omega) (by omega)]; exact h.2.2.1 i hi
  · by_cases e : f = fc
    · subst e
      exact ⟨⟨st, hst, g3⟩, pr, hpr, g4⟩
    · rw [m_addF_ne _ _ _ _ _ _ _ _ (by omega) (by omega), m_addF_ne _ _ _ _ _ _ _ _ (by omega) (by omega)]; exact h.2.2.2.1 f (by omega)
  · rw [m_addF_ne _ _ _ _ _ _ _ _ (by omega) (by omega), m_addF_ne _ _ _ _ _ _ _ _ (by omega) (by omega)]; exact h.2.2.2.2.1 k hk
  · rw [m_addF_ne _ _ _ _ _ _ _ _ (by omega) (by omega), m_addF_ne _ _ _ _ _ _ _ _ (by omega) (by omega), m_addF_ne _ _ _ _ _ _ _ _ (by omega) (by omega), m_addF_ne _ _ _ _ _ _ _ _ (by omega) (by omega)]; exact h.2.2.2.2.2 j k hj hk
  · rw [m_addF]
    exact (((((hd.lo (by omega) (by omega) hb _).lo (by omega) (by omega) hb _).lo (by omega) (by omega) hb _).lo (by omega) (by omega) hb _).lo (by omega) (by omega) hb _).lo (by omega) (by omega) hb _
end ADD
section STM
variable {f f' : RT} {il D : Nat} {t : PS RT} {t' u : PS CT}
theorem QN.nn (HF : ∀ j, j < il → f j = f' j) (h : QN f il (SR D) t t') : QN f il (SR D) (p_nn f' il t) (c_nn f il t') := by
  have h0 : QP il (SR D) (p_wd f' il t) (c_wd f il t') := h.wd HF
  have h2 : QP il (SR D) (p_nn2 f' il t) (c_nn2 f il t') := by
    rw [p_nn2, c_nn2]
    refine h0.chk HF 2 (by decide) (fun hc => ?_)
    rw [p_nnV, if_pos hc]
    rcases h.nm HF hc with hn | ⟨z0, x1⟩
    · exact ⟨fun _ => hn.ne.1, fun _ => hn.ne.2⟩
    · exact ⟨fun q => absurd x1 q, fun q => absurd z0 q⟩
  have h3 : QP il (SR D) (p_nn3 f' il t) (c_nn f il t') := by
    rw [p_nn3, c_nn]
    refine h2.chk HF 3 (by decide) (fun hc => ?_)
    obtain ⟨hX, -⟩ := (h2.2.2 hc).xc
    obtain ⟨hc0, hx, -⟩ := p_chk_l (by decide) hc
    have e1 : c_nm f il (c_nn2 f il t') = c_nm f il (c_wd f il t') := by rw [c_nm, c_nm, c_nn2, p_chk_e]
    rw [p_nnV, if_pos hc0] at hx ⊢
    rcases h.nm HF hc0 with hn | ⟨z0, x1⟩
    · have hn : NR (c_nm f il (c_wd f il t')) (p_nm f' il (p_wd f' il t)) := hn
      show p_free _ _ ↔ c_free _ _
      unfold p_free c_free
      rw [e1, hX.cS.2.1, hX.cS.2.2.1, hX.1.vn hn, hX.1.fn hn]
    · exact absurd x1 hx
  exact h3.nxt HF
theorem QN.nnV (HF : ∀ j, j < il → f j = f' j) (h : QN f il (SR D) t t') (hc : (p_nn f' il t).2.2.1 = 0) : NR (c_nm f il (c_nn f il t')) (p_nnV f' il t) := by
  obtain ⟨a1, a2, a3, a4, a5, a6⟩ := p_nn_l hc
  have hw : p_wd f' il t = t := by rw [p_wd]; exact p_chk_t a2
  have e1 : c_nm f il (c_nn f il t') = c_nm f il (c_wd f il t') := by rw [c_nm, c_nm, c_nn, p_chk_e, c_nn2, p_chk_e]
  rw [e1, a5]
  rcases h.nm HF (by rw [hw]; exact a1) with hn | ⟨-, x1⟩
  · rw [hw] at hn; exact hn
  · rw [hw] at x1; exact absurd x1 a3
theorem QN.vh1 (HF : ∀ j, j < il → f j = f' j) (h : QN f il (SR D) t t') (hc : (p_wd f' il t).2.2.1 = 0) : c_kvV f il (c_wd f il t') = m_vn (p_wd f' il t).1 (p_nm f' il (p_wd f' il t)) (m_vc (p_wd f' il t).1) := by
  have h0 : QP il (SR D) (p_wd f' il t) (c_wd f il t') := h.wd HF
  obtain ⟨hX, -⟩ := (h0.2.2 hc).xc
  rw [c_kvV, hX.cS.2.1]
  rcases h.nm HF hc with hn | ⟨z0, x1⟩
  · exact hX.1.vn hn
  · have z0 : c_nm f il (c_wd f il t') = 0 := z0
    rw [z0, x1, hX.1.v0, hX.1.vm1]
theorem QN.vh (HF : ∀ j, j < il → f j = f' j) (h : QN f il (SR D) t t') : QN f il (SR D) (p_vh f' il t) (c_kv f il t') := by
  have h0 : QP il (SR D) (p_wd f' il t) (c_wd f il t') := h.wd HF
  have h1 : QP il (SR D) (p_vh1 f' il t) (c_kv f il t') := by
    rw [p_vh1, c_kv]
    refine h0.chk HF 4 (by decide) (fun hc => ?_)
    rw [p_vhW, if_pos hc, h.vh1 HF hc]
  exact h1.nxt HF
theorem QN.vhV (HF : ∀ j, j < il → f j = f' j) (h : QN f il (SR D) t t') (hc : (p_vh f' il t).2.2.1 = 0) : c_kvV f il (c_kv f il t') = p_vhV f' il t ∧ ∃ w, w < m_vc t.1 ∧ p_vhV f' il t = nI w := by
  obtain ⟨a1, a2, a3, a4, a5⟩ := p_vh_l hc
  have hw : p_wd f' il t = t := by rw [p_wd]; exact p_chk_t a2
  have e1 : c_kvV f il (c_kv f il t') = c_kvV f il (c_wd f il t') := by rw [c_kvV, c_kvV, c_nm, c_nm, c_kv, p_chk_e, p_chk_g]
  have := h.vh1 HF (by rw [hw]; exact a1)
  rw [hw] at this
  rw [e1, this, a4]
  exact ⟨rfl, m_vn_cases a3⟩
theorem QN.num' {A : CT → RT → Prop} (HF : ∀ j, j < il → f j = f' j) (h : QN f il A t t') {T : PS RT} {U : PS CT} {a b : Nat} {lo hi : Int32} (elo : lo = nI a) (ehi : hi = nI b) (eT : T = p_num f' il lo hi t) (eU : U = c_num f il t' lo hi) (hb : b < 1000000) : QN f il A T U := by
  subst elo ehi eT eU
  exact h.num HF hb
theorem QN.val' {A : CT → RT → Prop} (HF : ∀ j, j < il → f j = f' j) (h : QN f il A t t') {T : PS RT} {U : PS CT} {a b : Nat} {lo hi : Int32} (elo : lo = nI a) (ehi : hi = nI b) (eT : T = p_num f' il lo hi t) (eU : U = c_num f il t' lo hi) (ha : a < 1000000) (hb : b < 1000000) (hc : T.2.2.1 = 0) : ∃ x, a ≤ x ∧ x ≤ b ∧ p_lkV f' il lo hi t = nI x ∧ tW f il U.2.1 = nI x := by
  subst elo ehi eT eU
  obtain ⟨v, x, x1, x2, x3⟩ := h.val HF ha hb hc
  exact ⟨x, x1, x2, v.trans x3, x3⟩
theorem QN.fin' {A : CT → RT → Prop} (HF : ∀ j, j < il → f j = f' j) (h : QN f il A t t') {T : PS RT} {U : PS CT} (eT : T = p_fin f' il t) (eU : U = c_sem f il t') : QN f il A T U := by
  subst eT eU
  exact h.fin HF
theorem live_num {T : PS RT} {lo hi : Int32} (eT : T = p_num f' il lo hi t) (hc : T.2.2.1 = 0) : t.2.2.1 = 0 := by
  subst eT
  exact (p_num_l hc).1
theorem live_fin {T : PS RT} (eT : T = p_fin f' il t) (hc : T.2.2.1 = 0) : t.2.2.1 = 0 := by
  subst eT
  exact (p_fin_l hc).1
theorem live_nn {T : PS RT} (eT : T = p_nn f' il t) (hc : T.2.2.1 = 0) : t.2.2.1 = 0 := by
  subst eT
  exact (p_nn_l hc).1
theorem live_vh {T : PS RT} (eT : T = p_vh f' il t) (hc : T.2.2.1 = 0) : t.2.2.1 = 0 := by
  subst eT
  exact (p_vh_l hc).1
theorem QN.nn' (HF : ∀ j, j < il → f j = f' j) (h : QN f il (SR D) t t') {T : PS RT} {U : PS CT} (eT : T = p_nn f' il t) (eU : U = c_nn f il t') : QN f il (SR D) T U := by
  subst eT eU
  exact h.nn HF
theorem QN.nnV' (HF : ∀ j, j < il → f j = f' j) (h : QN f il (SR D) t t') {T : PS RT} {U : PS CT} (eT : T = p_nn f' il t) (eU : U = c_nn f il t') (hc : T.2.2.1 = 0) : NR (c_nm f il U) (p_nnV f' il t) := by
  subst eT eU
  exact h.nnV HF hc
theorem QN.vh' (HF : ∀ j, j < il → f j = f' j) (h : QN f il (SR D) t t') {T : PS RT} {U : PS CT} (eT : T = p_vh f' il t) (eU : U = c_kv f il t') : QN f il (SR D) T U := by
  subst eT eU
  exact h.vh HF
theorem QN.vhV' (HF : ∀ j, j < il → f j = f' j) (h : QN f il (SR D) t t') {T : PS RT} {U : PS CT} (eT : T = p_vh f' il t) (eU : U = c_kv f il t') (hc : T.2.2.1 = 0) : c_kvV f il U = p_vhV f' il t ∧ ∃ w, w < m_vc t.1 ∧ p_vhV f' il t = nI w := by
  subst eT eU
  exact h.vhV HF hc
theorem QP.rv (HF : ∀ j, j < il → f j = f' j) (h : QP il (SR D) t u) : QN f il (SR D) (p_rv f' il t) (c_rv f il u) := by
  have q1 : QN f il (SR D) (p_v1 f' il t) (c_v1 f il u) := by
    rw [p_v1, c_v1]
    refine (h.chk HF 5 (by decide) (fun hc => ?_)).nxt HF
    have e := (h.2.2 hc).1.1 9 (by decide)
    have e : u.1 16 9 = t.1 6 := e
    rw [e]
  have q2 := q1.nn' HF (T := p_v2 f' il t) (U := c_v2 f il u) rfl rfl
  have q3 := q2.num' HF (T := p_v3 f' il t) (U := c_v3 f il u) (a := 1) (b := 99) (lo := 1) (hi := 99) rfl rfl rfl rfl (by decide)
  have q4 := q3.num' HF (T := p_v4 f' il t) (U := c_v4 f il u) (a := 0) (b := 100) (lo := 0) (hi := 100) rfl rfl rfl rfl (by decide)
  have q5 := q4.fin' HF (T := p_v5 f' il t) (U := c_v5 f il u) rfl rfl
  rw [p_rv, c_rv]
  refine q5.out (fun hc hA => ?_)
  have l4 : (p_v4 f' il t).2.2.1 = 0 := live_fin (f' := f') (il := il) (T := p_v5 f' il t) (t := p_v4 f' il t) rfl hc
  have l3 : (p_v3 f' il t).2.2.1 = 0 := live_num (f' := f') (il := il) (lo := 0) (hi := 100) (T := p_v4 f' il t) (t := p_v3 f' il t) rfl l4
  have l2 : (p_v2 f' il t).2.2.1 = 0 := live_num (f' := f') (il := il) (lo := 1) (hi := 99) (T := p_v3 f' il t) (t := p_v2 f' il t) rfl l3
  obtain ⟨hX, hY⟩ := hA.xc
  have hvc : m_vc (p_v5 f' il t).1 < 6 := by
    obtain ⟨-, a2, a3⟩ := p_v5_l hc
    rw [a3]
    have := hX.2.1.2.1
    rw [a3] at this
    exact lt_of_nI this.1 (by omega) (by decide) (show t.1 6 < nI 6 from a2)
  obtain ⟨x1, y1, y2, w1, w3⟩ := q2.val' HF (T := p_v3 f' il t) (U := c_v3 f il u) (a := 1) (b := 99) (lo := 1) (hi := 99) rfl rfl rfl rfl (by decide) (by decide) l3
  obtain ⟨x2, z1, z2, w2, w4⟩ := q3.val' HF (T := p_v4 f' il t) (U := c_v4 f il u) (a := 0) (b := 100) (lo := 0) (hi := 100) rfl rfl rfl rfl (by decide) (by decide) l4
  have hn := q1.nnV' HF (T := p_v2 f' il t) (U := c_v2 f il u) rfl rfl l2
  rw [w1, w2, w3, w4, hX.cS.2.1]
  obtain ⟨r1, r2⟩ := hX.vadd hvc hn (p := x1) (t := x2) (by omega) (by omega) hY
  exact r1.sr r2
theorem QP.rf (HF : ∀ j, j < il → f j = f' j) (h : QP il (SR D) t u) : QN f il (SR D) (p_rf f' il t) (c_rf f il u) := by
  have q1 : QN f il (SR D) (p_f1 f' il t) (c_f1 f il u) := by
    rw [p_f1, c_f1]
    refine (h.chk HF 5 (by decide) (fun hc => ?_)).nxt HF
    have e := (h.2.2 hc).1.1 10 (by decide)
    have e : u.1 16 10 = t.1 7 := e
    rw [e]
  have q2 := q1.nn' HF (T := p_f2 f' il t) (U := c_f2 f il u) rfl rfl
  have q3 := q2.vh' HF (T := p_f3 f' il t) (U := c_f3 f il u) rfl rfl
  have q4 := q3.num' HF (T := p_f4 f' il t) (U := c_f4 f il u) (a := 1) (b := 12) (lo := 1) (hi := 12) rfl rfl rfl rfl (by decide)
  have q5 := q4.num' HF (T := p_f5 f' il t) (U := c_f5 f il u) (a := 1) (b := 99) (lo := 1) (hi := 99) rfl rfl rfl rfl (by decide)
  have q6 := q5.num' HF (T := p_f6 f' il t) (U := c_f6 f il u) (a := 1) (b := 20) (lo := 1) (hi := 20) rfl rfl rfl rfl (by decide)
  have q7 := q6.fin' HF (T := p_f7 f' il t) (U := c_f7 f il u) rfl rfl
  rw [p_rf, c_rf]
  refine q7.out (fun hc hA => ?_)
  have l6 : (p_f6 f' il t).2.2.1 = 0 := live_fin (f' := f') (il := il) (T := p_f7 f' il t) (t := p_f6 f' il t) rfl hc
  have l5 : (p_f5 f' il t).2.2.1 = 0 := live_num (f' := f') (il := il) (lo := 1) (hi := 20) (T := p_f6 f' il t) (t := p_f5 f' il t) rfl l6
  have l4 : (p_f4 f' il t).2.2.1 = 0 := live_num (f' := f') (il := il) (lo := 1) (hi := 99) (T := p_f5 f' il t) (t := p_f4 f' il t) rfl l5
  have l3 : (p_f3 f' il t).2.2.1 = 0 := live_num (f' := f') (il := il) (lo := 1) (hi := 12) (T := p_f4 f' il t) (t := p_f3 f' il t) rfl l4
  have l2 : (p_f2 f' il t).2.2.1 = 0 := live_vh (f' := f') (il := il) (T := p_f3 f' il t) (t := p_f2 f' il t) rfl l3
  obtain ⟨hX, hY⟩ := hA.xc
  have hfc : m_fc (p_f7 f' il t).1 < 6 := by
    obtain ⟨-, a2, a3⟩ := p_f7_l hc
    rw [a3]
    have := hX.2.1.2.2.1
    rw [a3] at this
    exact lt_of_nI this.1 (by omega) (by decide) (show t.1 7 < nI 6 from a2)
  obtain ⟨x1, y1, y2, w1, w4⟩ := q3.val' HF (T := p_f4 f' il t) (U := c_f4 f il u) (a := 1) (b := 12) (lo := 1) (hi := 12) rfl rfl rfl rfl (by decide) (by decide) l4
  obtain ⟨x2, z1, z2, w2, w5⟩ := q4.val' HF (T := p_f5 f' il t) (U := c_f5 f il u) (a := 1) (b := 99) (lo := 1) (hi := 99) rfl rfl rfl rfl (by decide) (by decide) l5
  obtain ⟨x3, s1, s2, w3, w6⟩ := q5.val' HF (T := p_f6 f' il t) (U := c_f6 f il u) (a := 1) (b := 20) (lo := 1) (hi := 20) rfl rfl rfl rfl (by decide) (by decide) l6
  obtain ⟨w7, -⟩ := q2.vhV' HF (T := p_f3 f' il t) (U := c_f3 f il u) rfl rfl l3
  have hn := q1.nnV' HF (T := p_f2 f' il t) (U := c_f2 f il u) rfl rfl l2
  rw [w1, w2, w3, w4, w5, w6, w7, hX.cS.2.2.1]
  obtain ⟨r1, r2⟩ := hX.fadd hfc hn (p_vhV f' il (p_f2 f' il t)) (pe := x1) (st := x2) (pr := x3) ⟨y1, y2⟩ (by omega) (by omega) hY
  exact r1.sr r2
end STM

/-! THE PURE EQUIVALENCE: the text's head -/
theorem p_set_nxt (f : RT) (il i : Nat) (v : Int32) (t : PS RT) : p_nxt f il (p_set i v t) = p_set i v (p_nxt f il t) := by
  unfold p_nxt p_set
  dsimp only
  split <;> rfl
section HEAD
variable {f f' : RT} {il : Nat} {A B : CT → RT → Prop} {t : PS RT} {t' u : PS CT}
theorem QN.lkv (HF : ∀ j, j < il → f j = f' j) (h : QN f il A t t') {a b : Nat} {lo hi : Int32} (elo : lo = nI a) (ehi : hi = nI b) (ha : a < 1000000) (hb : b < 1000000) (hc : (p_lk f' il lo hi t).2.2.1 = 0) : ∃ x, a ≤ x ∧ x ≤ b ∧ p_lkV f' il lo hi t = nI x ∧ tW f il (c_num f il t' lo hi).2.1 = nI x := by
  subst elo ehi
  obtain ⟨-, hk, hr, e⟩ := p_lk_l hc
  have e1 : (c_num f il t' (nI a) (nI b)).2.1 = t.2.1 := by rw [c_num, p_lkG, p_chk_e, p_tk_e, ← h.e1]
  rw [p_lkV, if_pos hc, e, e1]
  rw [tK_c HF] at hk
  obtain ⟨v, x, x1, x2, x3⟩ := (VW_tok HF h.2.1 hk).val ha hb hr
  exact ⟨x, x1, x2, v.trans x3, x3⟩
theorem QN.lk' (HF : ∀ j, j < il → f j = f' j) (h : QN f il A t t') {a b : Nat} {lo hi : Int32} (elo : lo = nI a) (ehi : hi = nI b) (hb : b < 1000000) : QP il A (p_lk f' il lo hi t) (c_num f il t' lo hi) := by
  subst elo ehi
  exact h.lk HF hb
/-- a number of the head, kept -/
theorem QP.set (h : QP il A t u) (i r j : Nat) (v w : Int32) (k : t.2.2.1 = 0 → A u.1 t.1 → B (us u.1 r j w) (upd t.1 i v)) : QP il B (p_set i v t) (if u.2.2.1 = 0 then (us u.1 r j w, u.2) else u) := by
  have ec := h.ec
  by_cases hc : t.2.2.1 = 0
  · rw [if_pos (ec ▸ hc)]
    exact ⟨h.1, h.2.1, fun _ => k hc (h.2.2 hc)⟩
  · rw [if_neg (by rw [← ec]; exact hc)]
    exact ⟨h.1, h.2.1, fun q => absurd q hc⟩
def A0 (S0 S : CT) (g : RT) : Prop := S = s_clear S0 ∧ g = fun _ => 0
def A1 (S0 S : CT) (g : RT) : Prop := ∃ s, s ≤ 1023 ∧ S = us (s_clear S0) 16 11 (nI s) ∧ g = upd (fun _ => 0) 0 (nI s)
def A2 (S0 S : CT) (g : RT) : Prop := ∃ S1 g1 a, A1 S0 S1 g1 ∧ a ≤ 20 ∧ S = us S1 8 0 (nI a) ∧ g = upd g1 1 (nI a)
def A3 (S0 S : CT) (g : RT) : Prop := ∃ S1 g1 a, A2 S0 S1 g1 ∧ a ≤ 20 ∧ S = us S1 8 1 (nI a) ∧ g = upd g1 2 (nI a)
def A4 (S0 S : CT) (g : RT) : Prop := ∃ S1 g1 a, A3 S0 S1 g1 ∧ a ≤ 20 ∧ S = us S1 8 2 (nI a) ∧ g = upd g1 3 (nI a)
theorem A4.all {S0 S : CT} {g : RT} (h : A4 S0 S g) : ∃ s a b c, s ≤ 1023 ∧ a ≤ 20 ∧ b ≤ 20 ∧ c ≤ 20 ∧ S = us (us (us (us (s_clear S0) 16 11 (nI s)) 8 0 (nI a)) 8 1 (nI b)) 8 2 (nI c) ∧ g = upd (upd (upd (upd (fun _ => 0) 0 (nI s)) 1 (nI a)) 2 (nI b)) 3 (nI c) := by
  obtain ⟨_, _, c, ⟨_, _, b, ⟨_, _, a, ⟨s, h1, rfl, rfl⟩, h2, rfl, rfl⟩, h3, rfl, rfl⟩, h4, rfl, rfl⟩ := h
  exact ⟨s, a, b, c, h1, h2, h3, h4, rfl, rfl⟩
theorem h4_s (X : CT) (s a b c : Nat) : us (us (us (us X 16 11 (nI s)) 8 0 (nI a)) 8 1 (nI b)) 8 2 (nI c) 8 0 = nI a ∧ us (us (us (us X 16 11 (nI s)) 8 0 (nI a)) 8 1 (nI b)) 8 2 (nI c) 8 1 = nI b ∧ us (us (us (us X 16 11 (nI s)) 8 0 (nI a)) 8 1 (nI b)) 8 2 (nI c) 8 2 = nI c := by
  refine ⟨?_, ?_, us_at _ _ _ _⟩
  · rw [us_un (by decide), us_un (by decide), us_at]
  · rw [us_un (by decide), us_at]
theorem h4_g (s a b c : Nat) : upd (upd (upd (upd (fun _ => 0) 0 (nI s)) 1 (nI a)) 2 (nI b)) 3 (nI c) 0 = nI s ∧ upd (upd (upd (upd (fun _ => 0) 0 (nI s)) 1 (nI a)) 2 (nI b)) 3 (nI c) 1 = nI a ∧ upd (upd (upd (upd (fun _ => 0) 0 (nI s)) 1 (nI a)) 2 (nI b)) 3 (nI c) 2 = nI b ∧ upd (upd (upd (upd (fun _ => 0) 0 (nI s)) 1 (nI a)) 2 (nI b)) 3 (nI c) 3 = nI c := by
  refine ⟨?_, ?_, ?_, pk_us⟩
  · rw [pk_un (by decide), pk_un (by decide), pk_un (by decide), pk_us]
  · rw [pk_un (by decide), pk_un (by decide), pk_us]
  · rw [pk_un (by decide), pk_us]
theorem A4.sum {S0 S : CT} {g : RT} (h : A4 S0 S g) : ∃ n, n ≤ 60 ∧ s_sumO S = nI n ∧ m_allOdds g = nI n := by
  obtain ⟨s, a, b, c, h1, h2, h3, h4, rfl, rfl⟩ := h.all
  obtain ⟨e0, e1, e2⟩ := h4_s (s_clear S0) s a b c
  obtain ⟨-, g1, g2, g3⟩ := h4_g s a b c
  refine ⟨a + b + c, by omega, ?_, ?_⟩
  · rw [s_sumO, e0, e1, e2, nI_add, nI_add]
  · rw [m_allOdds, g1, g2, g3, nI_add, nI_add]
theorem A4.sr {S0 S : CT} {g : RT} (h : A4 S0 S g) (hs : 0 < m_allOdds g) : SR 0 S g := by
  obtain ⟨s, a, b, c, h1, h2, h3, h4, rfl, rfl⟩ := h.all
  have hsum : 1 ≤ a + b + c := by
    have hs : 0 < nI a + nI b + nI c := hs
    rw [nI_add, nI_add] at hs
    exact (nI_ltI (a := 0) (b := a + b + c) (by decide) (by omega)).mp hs
  have hz : ∀ j, 4 ≤ j → upd (upd (upd (upd (fun _ => 0) 0 (nI s)) 1 (nI a)) 2 (nI b)) 3 (nI c) j = 0 := fun j hj => by
    rw [pk_un (by omega), pk_un (by omega), pk_un (by omega), pk_un (by omega)]
  have hX : XC (us (us (us (us (s_clear S0) 16 11 (nI s)) 8 0 (nI a)) 8 1 (nI b)) 8 2 (nI c)) (upd (upd (upd (upd (fun _ => 0) 0 (nI s)) 1 (nI a)) 2 (nI b)) 3 (nI c)) 0 0 0 0 := by
    refine ⟨⟨fun r j ho r0 r3 => ?_, fun i hi => absurd hi (Nat.not_lt_zero i), fun f hf => absurd hf (Nat.not_lt_zero f), fun k hk => absurd hk (Nat.not_lt_zero k)⟩, ⟨⟨hz 8 (by decide), by decide⟩, ⟨hz 6 (by decide), by decide⟩, ⟨hz 7 (by decide), by decide⟩, ⟨hz 9 (by decide), by decide⟩, fun k hk => absurd hk (Nat.not_lt_zero k), fun f hf => absurd hf (Nat.not_lt_zero f), ⟨a, b, c, h2, h3, h4, hsum, rfl, rfl, rfl⟩, ⟨s, by omega, rfl⟩⟩, fun i hi => absurd hi (Nat.not_lt_zero i), fun f hf => absurd hf (Nat.not_lt_zero f), fun k hk => absurd hk (Nat.not_lt_zero k), fun j k _ hk => absurd hk (Nat.not_lt_zero k)⟩
    rcases ho with ⟨rfl, hj⟩ | ⟨rfl | rfl, hj⟩ | ⟨-, hj⟩ | ⟨-, -, hj⟩ | ⟨-, -, hj⟩
    · rcases (show j = 0 ∨ j = 1 ∨ j = 2 ∨ j = 3 ∨ j = 4 ∨ j = 5 ∨ j = 6 ∨ j = 7 ∨ j = 8 ∨ j = 9 ∨ j = 10 ∨ j = 11 ∨ j = 12 ∨ j = 13 by omega) with rfl | rfl | rfl | rfl | rfl | rfl | rfl | rfl | rfl | rfl | rfl | rfl | rfl | rfl <;> rfl
    · rcases (show j = 0 ∨ j = 1 ∨ j = 2 by omega) with rfl | rfl | rfl <;> rfl
    · rcases (show j = 0 ∨ j = 1 ∨ j = 2 by omega) with rfl | rfl | rfl <;> rfl
    · exact absurd hj (Nat.not_lt_zero j)
    · exact absurd hj (Nat.not_lt_zero j)
    · exact absurd hj (Nat.not_lt_zero j)
  exact hX.sr ⟨0, Nat.le_refl _, hz 5 (by decide), fun k hk => absurd hk (Nat.not_lt_zero k)⟩
theorem QP.hd_z (HF : ∀ j, j < il → f j = f' j) (S0 : CT) : QP il (SR 0) (p_head f' il) (p_nxt f il (c_al f il (s_clear S0))) := by
  have q0 : QP il (A0 S0) p_h0 (s_clear S0, 0, 0, -1) := ⟨rfl, Nat.zero_le _, fun _ => ⟨rfl, rfl⟩⟩
  have q1 : QN f il (A0 S0) (p_h1 f' il) (c_a0 f il (s_clear S0)) := by
    rw [p_h1, c_a0]
    exact (q0.chk HF 1 (by decide) (fun _ => tIs_c HF (Nat.zero_le _) 1 (by decide))).nxt HF
  have q2 : QN f il (A1 S0) (p_h2 f' il) (c_a1 f il (s_clear S0)) := by
    have k := q1.lk' HF (a := 0) (b := 1023) (lo := 0) (hi := 1023) rfl rfl (by decide)
    rw [p_h2, c_a1, c_ss, p_num, ← p_set_nxt]
    refine (k.set 0 16 11 _ _ (fun hc hA => ?_)).nxt HF
    obtain ⟨x, -, x2, v1, v2⟩ := q1.lkv HF (a := 0) (b := 1023) (lo := 0) (hi := 1023) rfl rfl (by decide) (by decide) hc
    rw [v1, v2]
    exact ⟨x, x2, by rw [hA.1], by rw [hA.2]⟩
  have q3 : QN f il (A2 S0) (p_h3 f' il) (c_a2 f il (s_clear S0)) := by
    have k := q2.lk' HF (a := 0) (b := 20) (lo := 0) (hi := 20) rfl rfl (by decide)
    rw [p_h3, c_a2, c_so, p_num, ← p_set_nxt]
    refine (k.set 1 8 0 _ _ (fun hc hA => ?_)).nxt HF
    obtain ⟨x, -, x2, v1, v2⟩ := q2.lkv HF (a := 0) (b := 20) (lo := 0) (hi := 20) rfl rfl (by decide) (by decide) hc
    rw [v1, v2]
    exact ⟨_, _, x, hA, x2, rfl, rfl⟩
  have q4 : QN f il (A3 S0) (p_h4 f' il) (c_a3 f il (s_clear S0)) := by
    have k := q3.lk' HF (a := 0) (b := 20) (lo := 0) (hi := 20) rfl rfl (by decide)
    rw [p_h4, c_a3, c_so, p_num, ← p_set_nxt]
    refine (k.set 2 8 1 _ _ (fun hc hA => ?_)).nxt HF
    obtain ⟨x, -, x2, v1, v2⟩ := q3.lkv HF (a := 0) (b := 20) (lo := 0) (hi := 20) rfl rfl (by decide) (by decide) hc
    rw [v1, v2]
    exact ⟨_, _, x, hA, x2, rfl, rfl⟩
  have q5 : QP il (A4 S0) (p_h5 f' il) (c_a4 f il (s_clear S0)) := by
    have k := q4.lk' HF (a := 0) (b := 20) (lo := 0) (hi := 20) rfl rfl (by decide)
    rw [p_h5, c_a4, c_so]
    refine k.set 3 8 2 _ _ (fun hc hA => ?_)
    obtain ⟨x, -, x2, v1, v2⟩ := q4.lkv HF (a := 0) (b := 20) (lo := 0) (hi := 20) rfl rfl (by decide) (by decide) hc
    rw [v1, v2]
    exact ⟨_, _, x, hA, x2, rfl, rfl⟩
  have q6 : QP il (SR 0) (p_chk f' il (0 < m_allOdds (p_h5 f' il).1) 2 (p_h5 f' il)) (c_a5 f il (s_clear S0)) := by
    rw [c_a5]
    refine (q5.chk HF 2 (by decide) (fun hc => ?_)).imp (fun hc hA => ?_)
    · obtain ⟨n, n1, n2, n3⟩ := (q5.2.2 hc).sum
      rw [n2, n3]
      constructor
      · intro q e
        rw [e] at q
        exact absurd q (by decide)
      · intro q
        exact nI_lt (a := 0) (Nat.pos_of_ne_zero (fun e => q (by rw [e]; rfl))) (by omega)
    · obtain ⟨-, hs, -⟩ := p_chk_l (by decide) hc
      rw [p_chk_g, p_chk_g] at hA ⊢
      exact hA.sr hs
  have q7 : QN f il (SR 0) (p_h6 f' il) (c_a5 f il (s_clear S0)) := by
    rw [p_h6]
    exact q6.nxt HF
  exact q7.fin' HF (T := p_head f' il) (U := c_al f il (s_clear S0)) rfl rfl
/-- both parsers, of the same bytes -/
theorem QP.al_z (HF : ∀ j, j < il → f j = f' j) (hil : il ≤ 600) (S0 : CT) : QP il (SR 120000) (p_all f' il) (c_txt f il (s_clear S0)) := by
  have h := QP.lp HF 600 0 _ _ (QP.hd_z HF S0) (by decide)
  rw [Nat.zero_add] at h
  rw [p_all, c_txt, p_lp_more 600 (p_head f' il) PI_head (by omega)]
  exact h
end HEAD

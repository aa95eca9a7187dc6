/-! a State's counts stay in their bounds -/
theorem CI_same {S T : CT} (h : CI S) (e9 : T 16 9 = S 16 9) (e10 : T 16 10 = S 16 10) (e12 : T 16 12 = S 16 12) (e13 : T 16 13 = S 16 13) : CI T :=
  CI_of (e12.trans h.1.1) h.1.2 (e9.trans h.2.1.1) h.2.1.2 (e10.trans h.2.2.1.1) h.2.2.1.2 (e13.trans h.2.2.2.1) h.2.2.2.2
theorem CI_vadd {S : CT} (h : CI S) (hv : vcO S < 6) (nm pe tr : Int32) : CI (s_vadd S nm pe tr (vcO S)) :=
  CI_of (vc := vcO S + 1) ((show s_vadd S nm pe tr (vcO S) 16 12 = S 16 12 from rfl).trans h.1.1) h.1.2 rfl (by omega) ((show s_vadd S nm pe tr (vcO S) 16 10 = S 16 10 from rfl).trans h.2.2.1.1) h.2.2.1.2 ((show s_vadd S nm pe tr (vcO S) 16 13 = S 16 13 from rfl).trans h.2.2.2.1) h.2.2.2.2
theorem CI_fadd {S : CT} (h : CI S) (hv : fcO S < 6) (nm vi pe st pr : Int32) : CI (s_fadd S nm vi pe st pr (fcO S)) :=
  CI_of (fc := fcO S + 1) ((show s_fadd S nm vi pe st pr (fcO S) 16 12 = S 16 12 from rfl).trans h.1.1) h.1.2 ((show s_fadd S nm vi pe st pr (fcO S) 16 9 = S 16 9 from rfl).trans h.2.1.1) h.2.1.2 rfl (by omega) ((show s_fadd S nm vi pe st pr (fcO S) 16 13 = S 16 13 from rfl).trans h.2.2.2.1) h.2.2.2.2
theorem CI_bookAdd {S : CT} (h : CI S) (hb : bcO S < 30) (v d w : Int32) : CI (s_bookAdd S v d w (bcO S)) :=
  CI_of (bc := bcO S + 1) rfl (by omega) ((show s_bookAdd S v d w (bcO S) 16 9 = S 16 9 from rfl).trans h.2.1.1) h.2.1.2 ((show s_bookAdd S v d w (bcO S) 16 10 = S 16 10 from rfl).trans h.2.2.1.1) h.2.2.1.2 ((show s_bookAdd S v d w (bcO S) 16 13 = S 16 13 from rfl).trans h.2.2.2.1) h.2.2.2.2
theorem s_takeBack_16 (S : CT) (pg bc vc j : Nat) (hj : j = 9 ∨ j = 10 ∨ j = 13) : s_takeBack S pg bc vc 16 j = S 16 j := by
  have h := s_tbLoop_16 S pg bc vc j (by omega) (by omega)
  rw [← h]
  rcases hj with rfl | rfl | rfl <;> rfl
theorem CI_takeBack {S : CT} (h : CI S) {pg : Nat} (hp : 4 * pg < bcO S) : CI (s_takeBack S pg (bcO S) (vcO S)) := by
  have hb := h.1.2
  exact CI_of (bc := 4 * pg + (bcO S - min (bcO S) (4 * pg + 4))) rfl (by omega) ((s_takeBack_16 _ _ _ _ 9 (by omega)).trans h.2.1.1) h.2.1.2 ((s_takeBack_16 _ _ _ _ 10 (by omega)).trans h.2.2.1.1) h.2.2.1.2 ((s_takeBack_16 _ _ _ _ 13 (by omega)).trans h.2.2.2.1) h.2.2.2.2
theorem CI_draw {S : CT} (h : CI S) : CI (s_draw S) := CI_same h rfl rfl rfl rfl
theorem CI_judge {S : CT} (h : CI S) (v w : Nat) : CI (s_judge S v w (bcO S) (vcO S) (mcO S)) := by
  obtain ⟨b, hb, e⟩ := s_judge_12 S v w (bcO S) (vcO S) (mcO S) h.1.2 h.1.1
  obtain ⟨m, hm, e2⟩ := s_judge_13 S v w (bcO S) (vcO S) (mcO S) h.2.2.2.2 h.2.2.2.1
  have := h.1.2
  exact CI_of e (by omega) ((s_judge_16 _ _ _ _ _ _ 9 (by omega)).trans h.2.1.1) h.2.1.2 ((s_judge_16 _ _ _ _ _ _ 10 (by omega)).trans h.2.2.1.1) h.2.2.1.2 e2 hm
theorem CI_vilB {S : CT} (h : CI S) (v : Nat) : CI (s_vilB v S) := CI_judge (CI_draw h) v (s_drawW S)
theorem CI_fairB {S : CT} (h : CI S) (f : Nat) : CI (s_fairB f S) := by
  unfold s_fairB
  split
  · exact CI_same h (s_sellAt_16 _ _ _ _ 9 (by omega) (by omega) (by omega)) (s_sellAt_16 _ _ _ _ 10 (by omega) (by omega) (by omega)) (s_sellAt_16 _ _ _ _ 12 (by omega) (by omega) (by omega)) (s_sellAt_16 _ _ _ _ 13 (by omega) (by omega) (by omega))
  · exact h
theorem CI_day {S : CT} (h : CI S) : CI (s_day S) := by
  have h1 : CI (s_dayF (us S 16 0 (S 16 0 + 1))) := fo_inv CI (fun f T hT => CI_fairB hT f) _ _ _ (CI_same h rfl rfl rfl rfl)
  have h2 : CI (s_dayV (s_dayF (us S 16 0 (S 16 0 + 1)))) := fo_inv CI (fun f T hT => CI_vilB hT f) _ _ _ h1
  unfold s_day s_dayY
  split
  · exact CI_same h2 (s_closeYear_16 _ _) (s_closeYear_16 _ _) (s_closeYear_16 _ _) (s_closeYear_16 _ _)
  · exact h2
theorem CI_days {S : CT} (h : CI S) (n : Nat) : CI (s_days n S) := fo_inv CI (fun _ _ hT => CI_day hT) n 0 S h
section CST
variable {f : RT} {il : Nat} {t : PS CT}
theorem c_sem_l (h : (c_sem f il t).2.2.1 = 0) : t.2.2.1 = 0 := p_nxt_l (p_chk_l (by decide) h).1
theorem c_nn_l1 (h : (c_nn f il t).2.2.1 = 0) : t.2.2.1 = 0 := by
  rw [c_nn] at h
  have h1 := (p_chk_l (by decide) h).1
  rw [c_nn2] at h1
  have h2 := (p_chk_l (by decide) h1).1
  rw [c_wd, p_wd] at h2
  exact p_nxt_l (p_chk_l (by decide) h2).1
theorem c_kv_l1 (h : (c_kv f il t).2.2.1 = 0) : t.2.2.1 = 0 := by
  rw [c_kv] at h
  have h2 := (p_chk_l (by decide) h).1
  rw [c_wd, p_wd] at h2
  exact p_nxt_l (p_chk_l (by decide) h2).1
theorem CI_rv (h : CI t.1) : CI (c_rv f il t).1 := by
  by_cases hc : (c_v5 f il t).2.2.1 = 0
  · rw [c_rv, if_pos hc]
    dsimp only
    have l5 := hc
    rw [c_v5] at l5
    have l4 := c_sem_l l5
    rw [c_v4] at l4
    have l3 := (c_num_l l4).1
    rw [c_v3] at l3
    have l2 := (c_num_l l3).1
    rw [c_v2] at l2
    have l1 := c_nn_l1 l2
    rw [c_v1] at l1
    have h6 := (p_chk_l (by decide) l1).2.1
    rw [c_v5_g]
    exact CI_vadd h (lt_of_nI (n := 6) h.2.1.1 (by have := h.2.1.2; omega) (by omega) h6) _ _ _
  · rw [c_rv, if_neg hc, c_v5_g]; exact h
theorem CI_rf (h : CI t.1) : CI (c_rf f il t).1 := by
  by_cases hc : (c_f7 f il t).2.2.1 = 0
  · rw [c_rf, if_pos hc]
    dsimp only
    have l7 := hc
    rw [c_f7] at l7
    have l6 := c_sem_l l7
    rw [c_f6] at l6
    have l5 := (c_num_l l6).1
    rw [c_f5] at l5
    have l4 := (c_num_l l5).1
    rw [c_f4] at l4
    have l3 := (c_num_l l4).1
    rw [c_f3] at l3
    have l2 := c_kv_l1 l3
    rw [c_f2] at l2
    have l1 := c_nn_l1 l2
    rw [c_f1] at l1
    have h6 := (p_chk_l (by decide) l1).2.1
    rw [c_f7_g]
    exact CI_fadd h (lt_of_nI (n := 6) h.2.2.1.1 (by have := h.2.2.1.2; omega) (by omega) h6) _ _ _ _ _
  · rw [c_rf, if_neg hc, c_f7_g]; exact h
theorem c_s5_g : (c_s5 f il t).1 = t.1 := by rw [c_s5, c_sem_g, c_s4, p_chk_g, c_s3, p_nxt_g, c_s2, c_num_g, c_s1, c_kv_g]
theorem c_s6_g : (c_s6 f il t).1 = t.1 := by rw [c_s6, p_chk_g, c_s5_g]
theorem CI_rs (h : CI t.1) : CI (c_rs f il t).1 := by
  by_cases hc : (c_s6 f il t).2.2.1 = 0
  · rw [c_rs, if_pos hc]
    dsimp only
    have l6 := hc
    rw [c_s6] at l6
    have h6 := (p_chk_l (by decide) l6).2.1
    rw [c_s5_g] at h6
    rw [c_s6_g]
    exact CI_bookAdd h (s_ref0 h6) _ _ _
  · rw [c_rs, if_neg hc, c_s6_g]; exact h
theorem c_r4_g : (c_r4 f il t).1 = t.1 := by rw [c_r4, c_sem_g, c_r3, p_chk_g, c_r2, p_chk_g, c_r1, p_tk, p_chk_g, p_nxt_g]
theorem CI_rr (h : CI t.1) : CI (c_rr f il t).1 := by
  by_cases hc : (c_r4 f il t).2.2.1 = 0
  · rw [c_rr, if_pos hc]
    dsimp only
    have l4 := hc
    rw [c_r4] at l4
    have l3 := c_sem_l l4
    rw [c_r3] at l3
    have l2 := (p_chk_l (by decide) l3).1
    rw [c_r2] at l2
    have h2 := (p_chk_l (by decide) l2).2.1
    have e1 : (c_r1 f il t).1 = t.1 := by rw [c_r1, p_tk, p_chk_g, p_nxt_g]
    rw [e1] at h2
    have hb := h.1.2
    obtain ⟨-, hv4⟩ := inr_eq (n := (bcO t.1 + 4 - 1) / 4) h2 (by omega)
    rw [c_r4_g]
    obtain ⟨pg, hpe⟩ : ∃ z9, z9 = cl (tW f il (c_r1 f il t).2.1) := ⟨_, rfl⟩
    rw [← hpe] at hv4 ⊢
    exact CI_takeBack h (by omega)
  · rw [c_rr, if_neg hc, c_r4_g]; exact h
theorem c_p2_g : (c_p2 f il t).1 = t.1 := by rw [c_p2, c_sem_g, c_p1, c_num_g]
theorem CI_rp (h : CI t.1) : CI (c_rp f il t).1 := by
  by_cases hc : (c_p2 f il t).2.2.1 = 0
  · rw [c_rp, if_pos hc]
    dsimp only
    rw [c_p2_g]
    exact CI_days h _
  · rw [c_rp, if_neg hc, c_p2_g]; exact h
theorem PEc_v5 (h : t.2.1 ≤ il) : (c_v5 f il t).2.1 ≤ il := by rw [c_v5, c_v4, c_v3, c_v2, c_v1]; exact PEc_sem (PEc_num (PEc_num (PEc_nn (PE_chk h))))
theorem PEc_f7 (h : t.2.1 ≤ il) : (c_f7 f il t).2.1 ≤ il := by rw [c_f7, c_f6, c_f5, c_f4, c_f3, c_f2, c_f1]; exact PEc_sem (PEc_num (PEc_num (PEc_num (PEc_kv (PEc_nn (PE_chk h))))))
theorem PEc_s6 (h : t.2.1 ≤ il) : (c_s6 f il t).2.1 ≤ il := by rw [c_s6, p_chk_e, c_s5, c_s4, c_s3, c_s2, c_s1]; exact PEc_sem (PE_chk (PE_nxt (PEc_num (PEc_kv h))))
theorem PEc_r4 (h : t.2.1 ≤ il) : (c_r4 f il t).2.1 ≤ il := by rw [c_r4, c_r3, c_r2, c_r1, p_tk]; exact PEc_sem (PE_chk (PE_chk (PE_chk (PE_nxt h))))
theorem PEc_p2 (h : t.2.1 ≤ il) : (c_p2 f il t).2.1 ≤ il := by rw [c_p2, c_p1]; exact PEc_sem (PEc_num h)
theorem PEc_rv (h : t.2.1 ≤ il) : (c_rv f il t).2.1 ≤ il := by
  by_cases hc : (c_v5 f il t).2.2.1 = 0
  · rw [c_rv, if_pos hc]; dsimp only; exact PEc_v5 h
  · rw [c_rv, if_neg hc]; exact PEc_v5 h
theorem PEc_rf (h : t.2.1 ≤ il) : (c_rf f il t).2.1 ≤ il := by
  by_cases hc : (c_f7 f il t).2.2.1 = 0
  · rw [c_rf, if_pos hc]; dsimp only; exact PEc_f7 h
  · rw [c_rf, if_neg hc]; exact PEc_f7 h
theorem PEc_rs (h : t.2.1 ≤ il) : (c_rs f il t).2.1 ≤ il := by
  by_cases hc : (c_s6 f il t).2.2.1 = 0
  · rw [c_rs, if_pos hc]; dsimp only; exact PEc_s6 h
  · rw [c_rs, if_neg hc]; exact PEc_s6 h
theorem PEc_rr (h : t.2.1 ≤ il) : (c_rr f il t).2.1 ≤ il := by
  by_cases hc : (c_r4 f il t).2.2.1 = 0
  · rw [c_rr, if_pos hc]; dsimp only; exact PEc_r4 h
  · rw [c_rr, if_neg hc]; exact PEc_r4 h
theorem PEc_rp (h : t.2.1 ≤ il) : (c_rp f il t).2.1 ≤ il := by
  by_cases hc : (c_p2 f il t).2.2.1 = 0
  · rw [c_rp, if_pos hc]; dsimp only; exact PEc_p2 h
  · rw [c_rp, if_neg hc]; exact PEc_p2 h
theorem c_st_cases : (tIs f il t.2.1 2 ∧ c_st f il t = c_rv f il t) ∨ (tIs f il t.2.1 3 ∧ c_st f il t = c_rf f il t) ∨ (tIs f il t.2.1 4 ∧ c_st f il t = c_rs f il t) ∨ (tIs f il t.2.1 8 ∧ c_st f il t = c_rr f il t) ∨ (tIs f il t.2.1 9 ∧ c_st f il t = c_rp f il t) ∨ c_st f il t = p_chk f il False 1 t := by
  by_cases h1 : tIs f il t.2.1 2
  · exact Or.inl ⟨h1, if_pos h1⟩
  refine Or.inr ?_
  by_cases h2 : tIs f il t.2.1 3
  · exact Or.inl ⟨h2, by rw [c_st, if_neg h1, if_pos h2]⟩
  refine Or.inr ?_
  by_cases h3 : tIs f il t.2.1 4
  · exact Or.inl ⟨h3, by rw [c_st, if_neg h1, if_neg h2, if_pos h3]⟩
  refine Or.inr ?_
  by_cases h4 : tIs f il t.2.1 8
  · exact Or.inl ⟨h4, by rw [c_st, if_neg h1, if_neg h2, if_neg h3, if_pos h4]⟩
  refine Or.inr ?_
  by_cases h5 : tIs f il t.2.1 9
  · exact Or.inl ⟨h5, by rw [c_st, if_neg h1, if_neg h2, if_neg h3, if_neg h4, if_pos h5]⟩
  exact Or.inr (by rw [c_st, if_neg h1, if_neg h2, if_neg h3, if_neg h4, if_neg h5])
theorem CI_st (h : CI t.1) : CI (c_st f il t).1 := by
  rcases c_st_cases (f := f) (il := il) (t := t) with ⟨-, e⟩ | ⟨-, e⟩ | ⟨-, e⟩ | ⟨-, e⟩ | ⟨-, e⟩ | e
  · rw [e]; exact CI_rv h
  · rw [e]; exact CI_rf h
  · rw [e]; exact CI_rs h
  · rw [e]; exact CI_rr h
  · rw [e]; exact CI_rp h
  · rw [e, p_chk_g]; exact h
theorem PEc_st (h : t.2.1 ≤ il) : (c_st f il t).2.1 ≤ il := by
  rcases c_st_cases (f := f) (il := il) (t := t) with ⟨-, e⟩ | ⟨-, e⟩ | ⟨-, e⟩ | ⟨-, e⟩ | ⟨-, e⟩ | e
  · rw [e]; exact PEc_rv h
  · rw [e]; exact PEc_rf h
  · rw [e]; exact PEc_rs h
  · rw [e]; exact PEc_rr h
  · rw [e]; exact PEc_rp h
  · rw [e, p_chk_e]; exact h
theorem c_a0_f {S : CT} (h : ¬ tIs f il 0 1) : c_a0 f il S = (S, 0, 1, nI (tS f il 0)) := p_chk_f rfl h
theorem c_ss_z (h : ¬ t.2.2.1 = 0) : c_ss f il t = t := if_neg h
theorem c_so_z {i : Nat} (h : ¬ t.2.2.1 = 0) : c_so f il t i = t := if_neg h
theorem c_lp_go {n : Nat} (hn : 0 < n) (hc : t.2.2.1 = 0) (hk : ¬ tK f il t.2.1 = 0) : c_lp f il n t = c_lp f il (n - 1) (p_nxt f il (c_st f il t)) := by
  obtain ⟨k, rfl⟩ : ∃ k, n = k + 1 := ⟨n - 1, by omega⟩
  exact if_pos ⟨hc, hk⟩
theorem c_lp_end {n : Nat} (h : ¬ t.2.2.1 = 0 ∨ tK f il t.2.1 = 0) : c_lp f il n t = t := by
  cases n with
  | zero => rfl
  | succ n => exact if_neg (fun q => h.elim (fun z => z q.1) q.2)
end CST
theorem CI_us {S : CT} (h : CI S) (r j : Nat) (v : Int32) (hr : r ≠ 16 ∨ j = 11) : CI (us S r j v) := by
  have e : ∀ k, k ≠ 11 → us S r j v 16 k = S 16 k := fun k hk => by
    simp only [us]
    split
    · rename_i h1
      subst h1
      rcases hr with hr | rfl
      · exact absurd rfl hr
      · simp [upd, hk]
    · rfl
  exact CI_same h (e 9 (by decide)) (e 10 (by decide)) (e 12 (by decide)) (e 13 (by decide))

set_option maxRecDepth 100000 in
set_option maxHeartbeats 4000000 in
theorem c_X5_readStatement (l : Launch) (G : gT) (p s : Nat) (b a : Nat → Nat) (f : RT) (q : RT × Nat) (t : PS CT) (v : Int32) (hf : ∀ j, j < q.2 → q.1 j &&& 255 = f j) (hq : q.2 ≤ 600) (ht : t.2.1 ≤ q.2) (hc : t.2.2.1 = 0) (hv : NU f q.2 t.2.1 v) (hI : CI t.1) : MI l yX5_readStatement cX5_readStatement 1 (some .boolean) { frames := 7, cells := 0, slots := 0, locals := 150 } [.ref (p)] G (prW G p s b a f q t v) (fun r (u : Int32) => ((r = 1 ∧ (c_st f q.2 t).2.2.1 = 0) ∨ (r = 0 ∧ ¬ (c_st f q.2 t).2.2.1 = 0)) ∧ NU f q.2 (c_st f q.2 t).2.1 u) (fun u => prW G p s b a f q (c_st f q.2 t) u) := by
  refine jm_i (own := RX5) (by decide) rfl (Nat.le_of_ble_eq_true rfl) (fun x hl hC hR hN => ?_)
  subst hl
  have hb0 := tok_b f ht hq
  refine J_aload_n hC dX5_readStatement_0 0 rfl rfl ?_
  refine J_get (v := .ref s) hC wu_X5 rfl dX5_readStatement_1 0 0 (by decide) wf_X5_23 rfl rfl ?_
  refine J_ldcS (i := 2) hC (by decide) rfl rfl dX5_readStatement_4 ?_
  refine J_callVi hC dX5_readStatement_6 wl_X5_48 yi_X6_isWord (cons_i (app_i (stW G a t.1) (c_X6_isWord _ G s b f q t.2.1 v 2 hf hq ht (by decide)))) rfl rfl 1 6 rfl rfl ⟨Nat.le_of_ble_eq_true rfl, Nat.le_of_ble_eq_true rfl⟩ (Nat.le_of_ble_eq_true rfl) (Nat.le_of_ble_eq_true rfl) (Nat.le_of_ble_eq_true rfl) (fun r u h_6 => ?_)
  refine J_wq (show _ = prW G p s b a f q t v from rfl) ?_
  rcases h_6 with ⟨rfl, c_6⟩ | ⟨rfl, c_6⟩
  · refine J_if_eq (tgt := 17) hC dX5_readStatement_9 (by decide) (fun c => absurd c (by decide)) (fun _ => ?_)
    refine J_aload_n hC dX5_readStatement_12 0 rfl rfl ?_
    refine J_callVi hC dX5_readStatement_13 wl_X5_87 yi_X5_readVillage (c_X5_readVillage _ G p s b a f q t v hf hq ht hc hv hI) rfl rfl 0 5 rfl rfl ⟨Nat.le_of_ble_eq_true rfl, Nat.le_of_ble_eq_true rfl⟩ (Nat.le_of_ble_eq_true rfl) (Nat.le_of_ble_eq_true rfl) (Nat.le_of_ble_eq_true rfl) (fun r v1 h_13 => ?_)
    obtain ⟨t1, d1⟩ : ∃ z9, z9 = c_rv f q.2 t := ⟨_, rfl⟩
    rw [← d1] at h_13
    obtain ⟨h_13, hv1⟩ := h_13
    have ht1 : t1.2.1 ≤ q.2 := by rw [d1]; exact PEc_rv ht
    have hI1 : CI t1.1 := by rw [d1]; exact CI_rv hI
    have hb1 := tok_b f ht1 hq
    refine J_wq (congrArg (fun z9 => prW G p s b a f q z9 v1) d1.symm) ?_
    rcases h_13 with ⟨rfl, hc1⟩ | ⟨rfl, hz1⟩
    · refine J_iret hC hR dX5_readStatement_16 rfl v1 ?_ ?_ (by decide) (by decide)
      · have eS : c_st f q.2 t = t1 := by rw [c_st, if_pos c_6, d1]
        rw [eS]
        exact ⟨Or.inl ⟨rfl, hc1⟩, hv1⟩
      · have eS : c_st f q.2 t = t1 := by rw [c_st, if_pos c_6, d1]
        rw [eS]
    · refine J_iret hC hR dX5_readStatement_16 rfl v1 ?_ ?_ (by decide) (by decide)
      · have eS : c_st f q.2 t = t1 := by rw [c_st, if_pos c_6, d1]
        rw [eS]
        exact ⟨Or.inr ⟨rfl, hz1⟩, hv1⟩
      · have eS : c_st f q.2 t = t1 := by rw [c_st, if_pos c_6, d1]
        rw [eS]
  · refine J_if_eq (tgt := 17) hC dX5_readStatement_9 (by decide) (fun _ => ?_) (fun c => absurd (by decide) c)
    refine J_aload_n hC dX5_readStatement_17 0 rfl rfl ?_
    refine J_get (v := .ref s) hC wu_X5 rfl dX5_readStatement_18 0 0 (by decide) wf_X5_23 rfl rfl ?_
    refine J_ldcS (i := 3) hC (by decide) rfl rfl dX5_readStatement_21 ?_
    refine J_callVi hC dX5_readStatement_23 wl_X5_48 yi_X6_isWord (cons_i (app_i (stW G a t.1) (c_X6_isWord _ G s b f q t.2.1 v 3 hf hq ht (by decide)))) rfl rfl 1 6 rfl rfl ⟨Nat.le_of_ble_eq_true rfl, Nat.le_of_ble_eq_true rfl⟩ (Nat.le_of_ble_eq_true rfl) (Nat.le_of_ble_eq_true rfl) (Nat.le_of_ble_eq_true rfl) (fun r u h_23 => ?_)
    refine J_wq (show _ = prW G p s b a f q t v from rfl) ?_
    rcases h_23 with ⟨rfl, c_23⟩ | ⟨rfl, c_23⟩
    · refine J_if_eq (tgt := 34) hC dX5_readStatement_26 (by decide) (fun c => absurd c (by decide)) (fun _ => ?_)
      refine J_aload_n hC dX5_readStatement_29 0 rfl rfl ?_
      refine J_callVi hC dX5_readStatement_30 wl_X5_92 yi_X5_readFair (c_X5_readFair _ G p s b a f q t v hf hq ht hc hv hI) rfl rfl 0 5 rfl rfl ⟨Nat.le_of_ble_eq_true rfl, Nat.le_of_ble_eq_true rfl⟩ (Nat.le_of_ble_eq_true rfl) (Nat.le_of_ble_eq_true rfl) (Nat.le_of_ble_eq_true rfl) (fun r v1 h_30 => ?_)
      obtain ⟨t1, d1⟩ : ∃ z9, z9 = c_rf f q.2 t := ⟨_, rfl⟩
      rw [← d1] at h_30
      obtain ⟨h_30, hv1⟩ := h_30
      have ht1 : t1.2.1 ≤ q.2 := by rw [d1]; exact PEc_rf ht
      have hI1 : CI t1.1 := by rw [d1]; exact CI_rf hI
      have hb1 := tok_b f ht1 hq
      refine J_wq (congrArg (fun z9 => prW G p s b a f q z9 v1) d1.symm) ?_
      rcases h_30 with ⟨rfl, hc1⟩ | ⟨rfl, hz1⟩
      · refine J_iret hC hR dX5_readStatement_33 rfl v1 ?_ ?_ (by decide) (by decide)
        · have eS : c_st f q.2 t = t1 := by rw [c_st, if_neg c_6, if_pos c_23, d1]
          rw [eS]
          exact ⟨Or.inl ⟨rfl, hc1⟩, hv1⟩
        · have eS : c_st f q.2 t = t1 := by rw [c_st, if_neg c_6, if_pos c_23, d1]
          rw [eS]
      · refine J_iret hC hR dX5_readStatement_33 rfl v1 ?_ ?_ (by decide) (by decide)
        · have eS : c_st f q.2 t = t1 := by rw [c_st, if_neg c_6, if_pos c_23, d1]
          rw [eS]
          exact ⟨Or.inr ⟨rfl, hz1⟩, hv1⟩
        · have eS : c_st f q.2 t = t1 := by rw [c_st, if_neg c_6, if_pos c_23, d1]
          rw [eS]
    · refine J_if_eq (tgt := 34) hC dX5_readStatement_26 (by decide) (fun _ => ?_) (fun c => absurd (by decide) c)
      refine J_aload_n hC dX5_readStatement_34 0 rfl rfl ?_
      refine J_get (v := .ref s) hC wu_X5 rfl dX5_readStatement_35 0 0 (by decide) wf_X5_23 rfl rfl ?_
      refine J_ldcS (i := 4) hC (by decide) rfl rfl dX5_readStatement_38 ?_
      refine J_callVi hC dX5_readStatement_40 wl_X5_48 yi_X6_isWord (cons_i (app_i (stW G a t.1) (c_X6_isWord _ G s b f q t.2.1 v 4 hf hq ht (by decide)))) rfl rfl 1 6 rfl rfl ⟨Nat.le_of_ble_eq_true rfl, Nat.le_of_ble_eq_true rfl⟩ (Nat.le_of_ble_eq_true rfl) (Nat.le_of_ble_eq_true rfl) (Nat.le_of_ble_eq_true rfl) (fun r u h_40 => ?_)
      refine J_wq (show _ = prW G p s b a f q t v from rfl) ?_
      rcases h_40 with ⟨rfl, c_40⟩ | ⟨rfl, c_40⟩
      · refine J_if_eq (tgt := 51) hC dX5_readStatement_43 (by decide) (fun c => absurd c (by decide)) (fun _ => ?_)
        refine J_aload_n hC dX5_readStatement_46 0 rfl rfl ?_
        refine J_callVi hC dX5_readStatement_47 wl_X5_97 yi_X5_readSay (c_X5_readSay _ G p s b a f q t v hf hq ht hc hv hI) rfl rfl 0 5 rfl rfl ⟨Nat.le_of_ble_eq_true rfl, Nat.le_of_ble_eq_true rfl⟩ (Nat.le_of_ble_eq_true rfl) (Nat.le_of_ble_eq_true rfl) (Nat.le_of_ble_eq_true rfl) (fun r v1 h_47 => ?_)
        obtain ⟨t1, d1⟩ : ∃ z9, z9 = c_rs f q.2 t := ⟨_, rfl⟩
        rw [← d1] at h_47
        obtain ⟨h_47, hv1⟩ := h_47
        have ht1 : t1.2.1 ≤ q.2 := by rw [d1]; exact PEc_rs ht
        have hI1 : CI t1.1 := by rw [d1]; exact CI_rs hI
        have hb1 := tok_b f ht1 hq
        refine J_wq (congrArg (fun z9 => prW G p s b a f q z9 v1) d1.symm) ?_
        rcases h_47 with ⟨rfl, hc1⟩ | ⟨rfl, hz1⟩
        · refine J_iret hC hR dX5_readStatement_50 rfl v1 ?_ ?_ (by decide) (by decide)
          · have eS : c_st f q.2 t = t1 := by rw [c_st, if_neg c_6, if_neg c_23, if_pos c_40, d1]
            rw [eS]
            exact ⟨Or.inl ⟨rfl, hc1⟩, hv1⟩
          · have eS : c_st f q.2 t = t1 := by rw [c_st, if_neg c_6, if_neg c_23, if_pos c_40, d1]
            rw [eS]
        · refine J_iret hC hR dX5_readStatement_50 rfl v1 ?_ ?_ (by decide) (by decide)
          · have eS : c_st f q.2 t = t1 := by rw [c_st, if_neg c_6, if_neg c_23, if_pos c_40, d1]
            rw [eS]
            exact ⟨Or.inr ⟨rfl, hz1⟩, hv1⟩
          · have eS : c_st f q.2 t = t1 := by rw [c_st, if_neg c_6, if_neg c_23, if_pos c_40, d1]
            rw [eS]
      · refine J_if_eq (tgt := 51) hC dX5_readStatement_43 (by decide) (fun _ => ?_) (fun c => absurd (by decide) c)
        refine J_aload_n hC dX5_readStatement_51 0 rfl rfl ?_
        refine J_get (v := .ref s) hC wu_X5 rfl dX5_readStatement_52 0 0 (by decide) wf_X5_23 rfl rfl ?_
        refine J_ldcS (i := 8) hC (by decide) rfl rfl dX5_readStatement_55 ?_
        refine J_callVi hC dX5_readStatement_57 wl_X5_48 yi_X6_isWord (cons_i (app_i (stW G a t.1) (c_X6_isWord _ G s b f q t.2.1 v 8 hf hq ht (by decide)))) rfl rfl 1 6 rfl rfl ⟨Nat.le_of_ble_eq_true rfl, Nat.le_of_ble_eq_true rfl⟩ (Nat.le_of_ble_eq_true rfl) (Nat.le_of_ble_eq_true rfl) (Nat.le_of_ble_eq_true rfl) (fun r u h_57 => ?_)
        refine J_wq (show _ = prW G p s b a f q t v from rfl) ?_
        rcases h_57 with ⟨rfl, c_57⟩ | ⟨rfl, c_57⟩
        · refine J_if_eq (tgt := 68) hC dX5_readStatement_60 (by decide) (fun c => absurd c (by decide)) (fun _ => ?_)
          refine J_aload_n hC dX5_readStatement_63 0 rfl rfl ?_
          refine J_callVi hC dX5_readStatement_64 wl_X5_102 yi_X5_readRetract (c_X5_readRetract _ G p s b a f q t v hf hq ht hc hv hI) rfl rfl 0 5 rfl rfl ⟨Nat.le_of_ble_eq_true rfl, Nat.le_of_ble_eq_true rfl⟩ (Nat.le_of_ble_eq_true rfl) (Nat.le_of_ble_eq_true rfl) (Nat.le_of_ble_eq_true rfl) (fun r v1 h_64 => ?_)
          obtain ⟨t1, d1⟩ : ∃ z9, z9 = c_rr f q.2 t := ⟨_, rfl⟩
          rw [← d1] at h_64
          obtain ⟨h_64, hv1⟩ := h_64
          have ht1 : t1.2.1 ≤ q.2 := by rw [d1]; exact PEc_rr ht
          have hI1 : CI t1.1 := by rw [d1]; exact CI_rr hI
          have hb1 := tok_b f ht1 hq
          refine J_wq (congrArg (fun z9 => prW G p s b a f q z9 v1) d1.symm) ?_
          rcases h_64 with ⟨rfl, hc1⟩ | ⟨rfl, hz1⟩
          · refine J_iret hC hR dX5_readStatement_67 rfl v1 ?_ ?_ (by decide) (by decide)
            · have eS : c_st f q.2 t = t1 := by rw [c_st, if_neg c_6, if_neg c_23, if_neg c_40, if_pos c_57, d1]
              rw [eS]
              exact ⟨Or.inl ⟨rfl, hc1⟩, hv1⟩
            · have eS : c_st f q.2 t = t1 := by rw [c_st, if_neg c_6, if_neg c_23, if_neg c_40, if_pos c_57, d1]
              rw [eS]
          · refine J_iret hC hR dX5_readStatement_67 rfl v1 ?_ ?_ (by decide) (by decide)
            · have eS : c_st f q.2 t = t1 := by rw [c_st, if_neg c_6, if_neg c_23, if_neg c_40, if_pos c_57, d1]
              rw [eS]
              exact ⟨Or.inr ⟨rfl, hz1⟩, hv1⟩
            · have eS : c_st f q.2 t = t1 := by rw [c_st, if_neg c_6, if_neg c_23, if_neg c_40, if_pos c_57, d1]
              rw [eS]
        · refine J_if_eq (tgt := 68) hC dX5_readStatement_60 (by decide) (fun _ => ?_) (fun c => absurd (by decide) c)
          refine J_aload_n hC dX5_readStatement_68 0 rfl rfl ?_
          refine J_get (v := .ref s) hC wu_X5 rfl dX5_readStatement_69 0 0 (by decide) wf_X5_23 rfl rfl ?_
          refine J_ldcS (i := 9) hC (by decide) rfl rfl dX5_readStatement_72 ?_
          refine J_callVi hC dX5_readStatement_74 wl_X5_48 yi_X6_isWord (cons_i (app_i (stW G a t.1) (c_X6_isWord _ G s b f q t.2.1 v 9 hf hq ht (by decide)))) rfl rfl 1 6 rfl rfl ⟨Nat.le_of_ble_eq_true rfl, Nat.le_of_ble_eq_true rfl⟩ (Nat.le_of_ble_eq_true rfl) (Nat.le_of_ble_eq_true rfl) (Nat.le_of_ble_eq_true rfl) (fun r u h_74 => ?_)
          refine J_wq (show _ = prW G p s b a f q t v from rfl) ?_
          rcases h_74 with ⟨rfl, c_74⟩ | ⟨rfl, c_74⟩
          · refine J_if_eq (tgt := 85) hC dX5_readStatement_77 (by decide) (fun c => absurd c (by decide)) (fun _ => ?_)
            refine J_aload_n hC dX5_readStatement_80 0 rfl rfl ?_
            refine J_callVi hC dX5_readStatement_81 wl_X5_107 yi_X5_readPass (c_X5_readPass _ G p s b a f q t v hf hq ht hc hv hI) rfl rfl 0 5 rfl rfl ⟨Nat.le_of_ble_eq_true rfl, Nat.le_of_ble_eq_true rfl⟩ (Nat.le_of_ble_eq_true rfl) (Nat.le_of_ble_eq_true rfl) (Nat.le_of_ble_eq_true rfl) (fun r v1 h_81 => ?_)
            obtain ⟨t1, d1⟩ : ∃ z9, z9 = c_rp f q.2 t := ⟨_, rfl⟩
            rw [← d1] at h_81
            obtain ⟨h_81, hv1⟩ := h_81
            have ht1 : t1.2.1 ≤ q.2 := by rw [d1]; exact PEc_rp ht
            have hI1 : CI t1.1 := by rw [d1]; exact CI_rp hI
            have hb1 := tok_b f ht1 hq
            refine J_wq (congrArg (fun z9 => prW G p s b a f q z9 v1) d1.symm) ?_
            rcases h_81 with ⟨rfl, hc1⟩ | ⟨rfl, hz1⟩
            · refine J_iret hC hR dX5_readStatement_84 rfl v1 ?_ ?_ (by decide) (by decide)
              · have eS : c_st f q.2 t = t1 := by rw [c_st, if_neg c_6, if_neg c_23, if_neg c_40, if_neg c_57, if_pos c_74, d1]
                rw [eS]
                exact ⟨Or.inl ⟨rfl, hc1⟩, hv1⟩
              · have eS : c_st f q.2 t = t1 := by rw [c_st, if_neg c_6, if_neg c_23, if_neg c_40, if_neg c_57, if_pos c_74, d1]
                rw [eS]
            · refine J_iret hC hR dX5_readStatement_84 rfl v1 ?_ ?_ (by decide) (by decide)
              · have eS : c_st f q.2 t = t1 := by rw [c_st, if_neg c_6, if_neg c_23, if_neg c_40, if_neg c_57, if_pos c_74, d1]
                rw [eS]
                exact ⟨Or.inr ⟨rfl, hz1⟩, hv1⟩
              · have eS : c_st f q.2 t = t1 := by rw [c_st, if_neg c_6, if_neg c_23, if_neg c_40, if_neg c_57, if_pos c_74, d1]
                rw [eS]
          · refine J_if_eq (tgt := 85) hC dX5_readStatement_77 (by decide) (fun _ => ?_) (fun c => absurd (by decide) c)
            refine J_aload_n hC dX5_readStatement_85 0 rfl rfl ?_
            refine J_iconst (v := 1) hC dX5_readStatement_86 rfl ?_
            refine J_callVi hC dX5_readStatement_87 wl_X5_52 yi_X5_fail (c_X5_fail _ G p s b a f q t v 1) rfl rfl 0 5 rfl rfl ⟨Nat.le_of_ble_eq_true rfl, Nat.le_of_ble_eq_true rfl⟩ (Nat.le_of_ble_eq_true rfl) (Nat.le_of_ble_eq_true rfl) (Nat.le_of_ble_eq_true rfl) (fun r u h_87 => ?_)
            subst h_87
            obtain ⟨t1, d1⟩ : ∃ z9, z9 = (t.1, t.2.1, (1 : Int32), nI (tS f q.2 t.2.1)) := ⟨_, rfl⟩
            have hz1 : ¬ t1.2.2.1 = 0 := by rw [d1]; show ¬ (1 : Int32) = 0; decide
            have hv1 : NU f q.2 t1.2.1 v := by rw [d1]; exact hv
            refine J_wq (congrArg (fun z9 => prW G p s b a f q z9 v) d1.symm) ?_
            refine J_iret hC hR dX5_readStatement_90 rfl v ?_ ?_ (by decide) (by decide)
            · have eS : c_st f q.2 t = t1 := by rw [c_st, if_neg c_6, if_neg c_23, if_neg c_40, if_neg c_57, if_neg c_74, p_chk_f hc id, d1]
              rw [eS]
              exact ⟨Or.inr ⟨rfl, hz1⟩, hv1⟩
            · have eS : c_st f q.2 t = t1 := by rw [c_st, if_neg c_6, if_neg c_23, if_neg c_40, if_neg c_57, if_neg c_74, p_chk_f hc id, d1]
              rw [eS]

/-- a Parser before its first token -/
def prR (G : gT) (p s : Nat) (b a : Nat → Nat) (q : RT × Nat) (S : CT) : va_W := (p, .inr (5, [.ref s, .ref (a 0), .int 0, .int (-1)])) :: (scR G s b q 0 0 (nI 0) 0 ++ stW G a S)

set_option maxRecDepth 100000 in
set_option maxHeartbeats 4000000 in
theorem c_X5_readAlmanac (l : Launch) (G : gT) (p s : Nat) (b a : Nat → Nat) (f : RT) (q : RT × Nat) (S : CT) (hf : ∀ j, j < q.2 → q.1 j &&& 255 = f j) (hq : q.2 ≤ 600) (hI : CI S) : MI l yX5_readAlmanac cX5_readAlmanac 2 (some .boolean) { frames := 5, cells := 0, slots := 0, locals := 107 } [.ref (p)] G (prR G p s b a q S) (fun r (u : Int32) => ((r = 1 ∧ (c_al f q.2 S).2.2.1 = 0) ∨ (r = 0 ∧ ¬ (c_al f q.2 S).2.2.1 = 0)) ∧ NU f q.2 (c_al f q.2 S).2.1 u) (fun u => prW G p s b a f q (c_al f q.2 S) u) := by
  refine jm_i (own := RX5) (by decide) rfl (Nat.le_of_ble_eq_true rfl) (fun x hl hC hR hN => ?_)
  subst hl
  refine J_aload_n hC dX5_readAlmanac_0 0 rfl rfl ?_
  refine J_get (v := .ref s) hC wu_X5 rfl dX5_readAlmanac_1 0 0 (by decide) wf_X5_23 rfl rfl ?_
  refine J_callVv hC dX5_readAlmanac_4 wl_X5_35 yi_X6_next (cons_v (app_v (stW G a S) (c_X6_next _ G s b f q 0 0 0 0 hf hq (Nat.zero_le _)))) rfl rfl 1 6 rfl rfl ⟨Nat.le_of_ble_eq_true rfl, Nat.le_of_ble_eq_true rfl⟩ (Nat.le_of_ble_eq_true rfl) (Nat.le_of_ble_eq_true rfl) (Nat.le_of_ble_eq_true rfl) (fun v1 hv1 => ?_)
  obtain ⟨t1, d1⟩ : ∃ z9, z9 = ((S, 0, 0, -1) : PS CT) := ⟨_, rfl⟩
  have e1 : t1.2.1 = 0 := by rw [d1]
  have hc1 : t1.2.2.1 = 0 := by rw [d1]
  have ht1 : t1.2.1 ≤ q.2 := by rw [e1]; exact Nat.zero_le _
  have hI1 : CI t1.1 := by rw [d1]; exact hI
  rw [← e1] at hv1
  have hb1 := tok_b f ht1 hq
  refine J_wq (show _ = prW G p s b a f q t1 v1 from by rw [d1]; rfl) ?_
  refine J_aload_n hC dX5_readAlmanac_7 0 rfl rfl ?_
  refine J_get (v := .ref s) hC wu_X5 rfl dX5_readAlmanac_8 0 0 (by decide) wf_X5_23 rfl rfl ?_
  refine J_ldcS (i := 1) hC (by decide) rfl rfl dX5_readAlmanac_11 ?_
  refine J_callVi hC dX5_readAlmanac_13 wl_X5_48 yi_X6_isWord (cons_i (app_i (stW G a t1.1) (c_X6_isWord _ G s b f q t1.2.1 v1 1 hf hq ht1 (by decide)))) rfl rfl 1 6 rfl rfl ⟨Nat.le_of_ble_eq_true rfl, Nat.le_of_ble_eq_true rfl⟩ (Nat.le_of_ble_eq_true rfl) (Nat.le_of_ble_eq_true rfl) (Nat.le_of_ble_eq_true rfl) (fun r u h_13 => ?_)
  refine J_wq (show _ = prW G p s b a f q t1 v1 from rfl) ?_
  rcases h_13 with ⟨rfl, c_13⟩ | ⟨rfl, c_13⟩
  · refine J_if_ne (tgt := 25) hC dX5_readAlmanac_16 (by decide) (fun _ => ?_) (fun c => absurd c (by decide))
    have s1 : t1 = c_a0 f q.2 S := by rw [e1] at c_13; rw [c_a0, p_chk_t c_13, d1]
    refine J_aload_n hC dX5_readAlmanac_25 0 rfl rfl ?_
    refine J_iconst (v := 0) hC dX5_readAlmanac_26 rfl ?_
    refine J_sipush (v := 1023) hC dX5_readAlmanac_27 (by decide +kernel) ?_
    refine J_callVi hC dX5_readAlmanac_30 wl_X5_56 yi_X5_readNumber (c_X5_readNumber _ G p s b a f q t1 v1 0 1023 hf hq ht1 hc1 hv1 hI1) rfl rfl 0 5 rfl rfl ⟨Nat.le_of_ble_eq_true rfl, Nat.le_of_ble_eq_true rfl⟩ (Nat.le_of_ble_eq_true rfl) (Nat.le_of_ble_eq_true rfl) (Nat.le_of_ble_eq_true rfl) (fun r v2 h_30 => ?_)
    obtain ⟨t2, d2⟩ : ∃ z9, z9 = c_num f q.2 t1 0 1023 := ⟨_, rfl⟩
    rw [← d2] at h_30
    obtain ⟨h_30, hv2⟩ := h_30
    have ht2 : t2.2.1 ≤ q.2 := by rw [d2]; exact PEc_num ht1
    have hI2 : CI t2.1 := by rw [d2, c_num_g]; exact hI1
    have hb2 := tok_b f ht2 hq
    have s2 : t2 = c_num f q.2 (c_a0 f q.2 S) 0 1023 := by rw [d2, ← s1]; try rfl
    refine J_wq (congrArg (fun z9 => prW G p s b a f q z9 v2) d2.symm) ?_
    rcases h_30 with ⟨rfl, hc2⟩ | ⟨rfl, hz2⟩
    · refine J_if_ne (tgt := 38) hC dX5_readAlmanac_33 (by decide) (fun _ => ?_) (fun c => absurd c (by decide))
      refine J_aload_n hC dX5_readAlmanac_38 0 rfl rfl ?_
      refine J_get (v := .ref (a 0)) hC wu_X5 rfl dX5_readAlmanac_39 0 1 (by decide) wf_X5_27 rfl rfl ?_
      refine J_get (v := .ref (a 11)) hC wu_X8 rfl dX5_readAlmanac_42 4 2 (by decide) wf_X5_60 rfl rfl ?_
      refine J_aload_n hC dX5_readAlmanac_45 0 rfl rfl ?_
      refine J_get (v := .ref s) hC wu_X5 rfl dX5_readAlmanac_46 0 0 (by decide) wf_X5_23 rfl rfl ?_
      refine J_get (v := .int v2) hC wu_X6 rfl dX5_readAlmanac_49 1 4 (by decide) wf_X5_66 rfl rfl ?_
      have w2 : v2 = tW f q.2 t2.2.1 := hv2 (by rw [d2]; exact (c_num_l (by rw [← d2]; exact hc2)).2.1)
      refine J_topi w2 ?_
      refine J_put (ws' := prW G p s b a f q (us t2.1 16 11 (tW f q.2 t2.2.1), t2.2) v2) hC wu_X7 rfl tyX7_ok nmX7 dX5_readAlmanac_52 15 2 (by decide) wf_X5_69 rfl rfl (Nat.le_of_ble_eq_true rfl) rfl rfl rfl ?_
      obtain ⟨t3, d3⟩ : ∃ z9, z9 = (us t2.1 16 11 (tW f q.2 t2.2.1), t2.2) := ⟨_, rfl⟩
      have s3 : t3 = c_a1 f q.2 S := by rw [d3, c_a1, ← s2, c_ss, if_pos hc2]
      have hc3 : t3.2.2.1 = 0 := by rw [d3]; exact hc2
      have ht3 : t3.2.1 ≤ q.2 := by rw [d3]; exact ht2
      have hv3 : NU f q.2 t3.2.1 v2 := by rw [d3]; exact hv2
      have hI3 : CI t3.1 := by rw [d3]; exact CI_us hI2 16 11 _ (by decide)
      have hb3 := tok_b f ht3 hq
      refine J_wq (show _ = prW G p s b a f q t3 v2 from by rw [d3]; try rfl) ?_
      refine J_iconst (v := 0) hC dX5_readAlmanac_55 rfl ?_
      refine J_istore_n hC [(1, .int 0), (0, .ref p)] dX5_readAlmanac_56 rfl (by decide) rfl ?_
      refine J_iload_n hC dX5_readAlmanac_57 0 rfl rfl ?_
      refine J_iconst (v := 2) hC dX5_readAlmanac_58 rfl ?_
      refine J_ic_gt (tgt := 99) hC dX5_readAlmanac_59 (by decide) (fun c => absurd c (by decide)) (fun _ => ?_)
      refine J_aload_n hC dX5_readAlmanac_62 1 rfl rfl ?_
      refine J_iconst (v := 0) hC dX5_readAlmanac_63 rfl ?_
      refine J_bipush (v := 20) hC dX5_readAlmanac_64 (by decide +kernel) ?_
      refine J_callVi hC dX5_readAlmanac_66 wl_X5_56 yi_X5_readNumber (c_X5_readNumber _ G p s b a f q t3 v2 0 20 hf hq ht3 hc3 hv3 hI3) rfl rfl 0 5 rfl rfl ⟨Nat.le_of_ble_eq_true rfl, Nat.le_of_ble_eq_true rfl⟩ (Nat.le_of_ble_eq_true rfl) (Nat.le_of_ble_eq_true rfl) (Nat.le_of_ble_eq_true rfl) (fun r v4 h_66 => ?_)
      obtain ⟨t4, d4⟩ : ∃ z9, z9 = c_num f q.2 t3 0 20 := ⟨_, rfl⟩
      rw [← d4] at h_66
      obtain ⟨h_66, hv4⟩ := h_66
      have ht4 : t4.2.1 ≤ q.2 := by rw [d4]; exact PEc_num ht3
      have hI4 : CI t4.1 := by rw [d4, c_num_g]; exact hI3
      have hb4 := tok_b f ht4 hq
      have s4 : t4 = c_num f q.2 (c_a1 f q.2 S) 0 20 := by rw [d4, ← s3]; try rfl
      refine J_wq (congrArg (fun z9 => prW G p s b a f q z9 v4) d4.symm) ?_
      rcases h_66 with ⟨rfl, hc4⟩ | ⟨rfl, hz4⟩
      · refine J_if_ne (tgt := 74) hC dX5_readAlmanac_69 (by decide) (fun _ => ?_) (fun c => absurd c (by decide))
        refine J_aload_n hC dX5_readAlmanac_74 1 rfl rfl ?_
        refine J_get (v := .ref (a 0)) hC wu_X5 rfl dX5_readAlmanac_75 0 1 (by decide) wf_X5_27 rfl rfl ?_
        refine J_get (v := .ref (a 11)) hC wu_X8 rfl dX5_readAlmanac_78 4 2 (by decide) wf_X5_60 rfl rfl ?_
        refine J_get (v := .ref (a 12)) hC wu_X7 rfl dX5_readAlmanac_81 15 0 (by decide) wf_X5_74 rfl rfl ?_
        refine J_iload_n hC dX5_readAlmanac_84 0 rfl rfl ?_
        refine J_aload_n hC dX5_readAlmanac_85 1 rfl rfl ?_
        refine J_get (v := .ref s) hC wu_X5 rfl dX5_readAlmanac_86 0 0 (by decide) wf_X5_23 rfl rfl ?_
        refine J_get (v := .int v4) hC wu_X6 rfl dX5_readAlmanac_89 1 4 (by decide) wf_X5_66 rfl rfl ?_
        have w4 : v4 = tW f q.2 t4.2.1 := hv4 (by rw [d4]; exact (c_num_l (by rw [← d4]; exact hc4)).2.1)
        refine J_topi w4 ?_
        refine J_iast (i := 0) (ws' := prW G p s b a f q (us t4.1 8 0 (tW f q.2 t4.2.1), t4.2) v4) hC dX5_readAlmanac_92 16 rfl (by omega) (by decide) rfl ?_
        obtain ⟨t5, d5⟩ : ∃ z9, z9 = (us t4.1 8 0 (tW f q.2 t4.2.1), t4.2) := ⟨_, rfl⟩
        have s5 : t5 = c_a2 f q.2 S := by rw [d5, c_a2, ← s4, c_so, if_pos hc4]
        have hc5 : t5.2.2.1 = 0 := by rw [d5]; exact hc4
        have ht5 : t5.2.1 ≤ q.2 := by rw [d5]; exact ht4
        have hv5 : NU f q.2 t5.2.1 v4 := by rw [d5]; exact hv4
        have hI5 : CI t5.1 := by rw [d5]; exact CI_us hI4 8 0 _ (by decide)
        have hb5 := tok_b f ht5 hq
        refine J_wq (show _ = prW G p s b a f q t5 v4 from by rw [d5]; try rfl) ?_
        refine J_iinc hC [(1, .int 1), (0, .ref p)] dX5_readAlmanac_93 0 rfl (by decide +kernel) (by decide) rfl ?_
        refine J_goto (tgt := 57) hC dX5_readAlmanac_96 (by decide) ?_
        refine J_iload_n hC dX5_readAlmanac_57 0 rfl rfl ?_
        refine J_iconst (v := 2) hC dX5_readAlmanac_58 rfl ?_
        refine J_ic_gt (tgt := 99) hC dX5_readAlmanac_59 (by decide) (fun c => absurd c (by decide)) (fun _ => ?_)
        refine J_aload_n hC dX5_readAlmanac_62 1 rfl rfl ?_
        refine J_iconst (v := 0) hC dX5_readAlmanac_63 rfl ?_
        refine J_bipush (v := 20) hC dX5_readAlmanac_64 (by decide +kernel) ?_
        refine J_callVi hC dX5_readAlmanac_66 wl_X5_56 yi_X5_readNumber (c_X5_readNumber _ G p s b a f q t5 v4 0 20 hf hq ht5 hc5 hv5 hI5) rfl rfl 0 5 rfl rfl ⟨Nat.le_of_ble_eq_true rfl, Nat.le_of_ble_eq_true rfl⟩ (Nat.le_of_ble_eq_true rfl) (Nat.le_of_ble_eq_true rfl) (Nat.le_of_ble_eq_true rfl) (fun r v6 h_66 => ?_)
        obtain ⟨t6, d6⟩ : ∃ z9, z9 = c_num f q.2 t5 0 20 := ⟨_, rfl⟩
        rw [← d6] at h_66
        obtain ⟨h_66, hv6⟩ := h_66
        have ht6 : t6.2.1 ≤ q.2 := by rw [d6]; exact PEc_num ht5
        have hI6 : CI t6.1 := by rw [d6, c_num_g]; exact hI5
        have hb6 := tok_b f ht6 hq
        have s6 : t6 = c_num f q.2 (c_a2 f q.2 S) 0 20 := by rw [d6, ← s5]; try rfl
        refine J_wq (congrArg (fun z9 => prW G p s b a f q z9 v6) d6.symm) ?_
        rcases h_66 with ⟨rfl, hc6⟩ | ⟨rfl, hz6⟩
        · refine J_if_ne (tgt := 74) hC dX5_readAlmanac_69 (by decide) (fun _ => ?_) (fun c => absurd c (by decide))
          refine J_aload_n hC dX5_readAlmanac_74 1 rfl rfl ?_
          refine J_get (v := .ref (a 0)) hC wu_X5 rfl dX5_readAlmanac_75 0 1 (by decide) wf_X5_27 rfl rfl ?_
          refine J_get (v := .ref (a 11)) hC wu_X8 rfl dX5_readAlmanac_78 4 2 (by decide) wf_X5_60 rfl rfl ?_
          refine J_get (v := .ref (a 12)) hC wu_X7 rfl dX5_readAlmanac_81 15 0 (by decide) wf_X5_74 rfl rfl ?_
          refine J_iload_n hC dX5_readAlmanac_84 0 rfl rfl ?_
          refine J_aload_n hC dX5_readAlmanac_85 1 rfl rfl ?_
          refine J_get (v := .ref s) hC wu_X5 rfl dX5_readAlmanac_86 0 0 (by decide) wf_X5_23 rfl rfl ?_
          refine J_get (v := .int v6) hC wu_X6 rfl dX5_readAlmanac_89 1 4 (by decide) wf_X5_66 rfl rfl ?_
          have w6 : v6 = tW f q.2 t6.2.1 := hv6 (by rw [d6]; exact (c_num_l (by rw [← d6]; exact hc6)).2.1)
          refine J_topi w6 ?_
          refine J_iast (i := 1) (ws' := prW G p s b a f q (us t6.1 8 1 (tW f q.2 t6.2.1), t6.2) v6) hC dX5_readAlmanac_92 16 rfl (by omega) (by decide) rfl ?_
          obtain ⟨t7, d7⟩ : ∃ z9, z9 = (us t6.1 8 1 (tW f q.2 t6.2.1), t6.2) := ⟨_, rfl⟩
          have s7 : t7 = c_a3 f q.2 S := by rw [d7, c_a3, ← s6, c_so, if_pos hc6]
          have hc7 : t7.2.2.1 = 0 := by rw [d7]; exact hc6
          have ht7 : t7.2.1 ≤ q.2 := by rw [d7]; exact ht6
          have hv7 : NU f q.2 t7.2.1 v6 := by rw [d7]; exact hv6
          have hI7 : CI t7.1 := by rw [d7]; exact CI_us hI6 8 1 _ (by decide)
          have hb7 := tok_b f ht7 hq
          refine J_wq (show _ = prW G p s b a f q t7 v6 from by rw [d7]; try rfl) ?_
          refine J_iinc hC [(1, .int 2), (0, .ref p)] dX5_readAlmanac_93 0 rfl (by decide +kernel) (by decide) rfl ?_
          refine J_goto (tgt := 57) hC dX5_readAlmanac_96 (by decide) ?_
          refine J_iload_n hC dX5_readAlmanac_57 0 rfl rfl ?_
          refine J_iconst (v := 2) hC dX5_readAlmanac_58 rfl ?_
          refine J_ic_gt (tgt := 99) hC dX5_readAlmanac_59 (by decide) (fun c => absurd c (by decide)) (fun _ => ?_)
          refine J_aload_n hC dX5_readAlmanac_62 1 rfl rfl ?_
          refine J_iconst (v := 0) hC dX5_readAlmanac_63 rfl ?_
          refine J_bipush (v := 20) hC dX5_readAlmanac_64 (by decide +kernel) ?_
          refine J_callVi hC dX5_readAlmanac_66 wl_X5_56 yi_X5_readNumber (c_X5_readNumber _ G p s b a f q t7 v6 0 20 hf hq ht7 hc7 hv7 hI7) rfl rfl 0 5 rfl rfl ⟨Nat.le_of_ble_eq_true rfl, Nat.le_of_ble_eq_true rfl⟩ (Nat.le_of_ble_eq_true rfl) (Nat.le_of_ble_eq_true rfl) (Nat.le_of_ble_eq_true rfl) (fun r v8 h_66 => ?_)
          obtain ⟨t8, d8⟩ : ∃ z9, z9 = c_num f q.2 t7 0 20 := ⟨_, rfl⟩
          rw [← d8] at h_66
          obtain ⟨h_66, hv8⟩ := h_66
          have ht8 : t8.2.1 ≤ q.2 := by rw [d8]; exact PEc_num ht7
          have hI8 : CI t8.1 := by rw [d8, c_num_g]; exact hI7
          have hb8 := tok_b f ht8 hq
          have s8 : t8 = c_num f q.2 (c_a3 f q.2 S) 0 20 := by rw [d8, ← s7]; try rfl
          refine J_wq (congrArg (fun z9 => prW G p s b a f q z9 v8) d8.symm) ?_
          rcases h_66 with ⟨rfl, hc8⟩ | ⟨rfl, hz8⟩
          · refine J_if_ne (tgt := 74) hC dX5_readAlmanac_69 (by decide) (fun _ => ?_) (fun c => absurd c (by decide))
            refine J_aload_n hC dX5_readAlmanac_74 1 rfl rfl ?_
            refine J_get (v := .ref (a 0)) hC wu_X5 rfl dX5_readAlmanac_75 0 1 (by decide) wf_X5_27 rfl rfl ?_
            refine J_get (v := .ref (a 11)) hC wu_X8 rfl dX5_readAlmanac_78 4 2 (by decide) wf_X5_60 rfl rfl ?_
            refine J_get (v := .ref (a 12)) hC wu_X7 rfl dX5_readAlmanac_81 15 0 (by decide) wf_X5_74 rfl rfl ?_
            refine J_iload_n hC dX5_readAlmanac_84 0 rfl rfl ?_
            refine J_aload_n hC dX5_readAlmanac_85 1 rfl rfl ?_
            refine J_get (v := .ref s) hC wu_X5 rfl dX5_readAlmanac_86 0 0 (by decide) wf_X5_23 rfl rfl ?_
            refine J_get (v := .int v8) hC wu_X6 rfl dX5_readAlmanac_89 1 4 (by decide) wf_X5_66 rfl rfl ?_
            have w8 : v8 = tW f q.2 t8.2.1 := hv8 (by rw [d8]; exact (c_num_l (by rw [← d8]; exact hc8)).2.1)
            refine J_topi w8 ?_
            refine J_iast (i := 2) (ws' := prW G p s b a f q (us t8.1 8 2 (tW f q.2 t8.2.1), t8.2) v8) hC dX5_readAlmanac_92 16 rfl (by omega) (by decide) rfl ?_
            obtain ⟨t9, d9⟩ : ∃ z9, z9 = (us t8.1 8 2 (tW f q.2 t8.2.1), t8.2) := ⟨_, rfl⟩
            have s9 : t9 = c_a4 f q.2 S := by rw [d9, c_a4, ← s8, c_so, if_pos hc8]
            have hc9 : t9.2.2.1 = 0 := by rw [d9]; exact hc8
            have ht9 : t9.2.1 ≤ q.2 := by rw [d9]; exact ht8
            have hv9 : NU f q.2 t9.2.1 v8 := by rw [d9]; exact hv8
            have hI9 : CI t9.1 := by rw [d9]; exact CI_us hI8 8 2 _ (by decide)
            have hb9 := tok_b f ht9 hq
            refine J_wq (show _ = prW G p s b a f q t9 v8 from by rw [d9]; try rfl) ?_
            refine J_iinc hC [(1, .int 3), (0, .ref p)] dX5_readAlmanac_93 0 rfl (by decide +kernel) (by decide) rfl ?_
            refine J_goto (tgt := 57) hC dX5_readAlmanac_96 (by decide) ?_
            refine J_iload_n hC dX5_readAlmanac_57 0 rfl rfl ?_
            refine J_iconst (v := 2) hC dX5_readAlmanac_58 rfl ?_
            refine J_ic_gt (tgt := 99) hC dX5_readAlmanac_59 (by decide) (fun _ => ?_) (fun c => absurd (by decide) c)
            refine J_aload_n hC dX5_readAlmanac_99 1 rfl rfl ?_
            refine J_get (v := .ref (a 0)) hC wu_X5 rfl dX5_readAlmanac_100 0 1 (by decide) wf_X5_27 rfl rfl ?_
            refine J_get (v := .ref (a 11)) hC wu_X8 rfl dX5_readAlmanac_103 4 2 (by decide) wf_X5_60 rfl rfl ?_
            refine J_callVi hC dX5_readAlmanac_106 wl_X5_78 yi_X7_sumOfOdds (cons_i (appr_i (scW G s b f q t9.2.1 v8) (c_X7_sumOfOdds _ G a t9.1))) rfl rfl 15 7 rfl rfl ⟨Nat.le_of_ble_eq_true rfl, Nat.le_of_ble_eq_true rfl⟩ (Nat.le_of_ble_eq_true rfl) (Nat.le_of_ble_eq_true rfl) (Nat.le_of_ble_eq_true rfl) (fun r u h_106 => ?_)
            refine J_wq (show _ = prW G p s b a f q t9 v8 from rfl) ?_
            subst h_106
            refine J_if_ne (tgt := 118) hC dX5_readAlmanac_109 (by decide) (fun (c_109 : ¬ (s_sumO t9.1) = 0) => ?_) (fun (c_109 : (s_sumO t9.1) = 0) => ?_)
            · refine J_aload_n hC dX5_readAlmanac_118 1 rfl rfl ?_
              refine J_callVi hC dX5_readAlmanac_119 wl_X5_82 yi_X5_readSemicolon (c_X5_readSemicolon _ G p s b a f q t9 v8 hf hq ht9 hc9 hv9 hI9) rfl rfl 0 5 rfl rfl ⟨Nat.le_of_ble_eq_true rfl, Nat.le_of_ble_eq_true rfl⟩ (Nat.le_of_ble_eq_true rfl) (Nat.le_of_ble_eq_true rfl) (Nat.le_of_ble_eq_true rfl) (fun r v10 h_119 => ?_)
              obtain ⟨t10, d10⟩ : ∃ z9, z9 = c_sem f q.2 t9 := ⟨_, rfl⟩
              rw [← d10] at h_119
              obtain ⟨h_119, hv10⟩ := h_119
              have ht10 : t10.2.1 ≤ q.2 := by rw [d10]; exact PEc_sem ht9
              have hI10 : CI t10.1 := by rw [d10, c_sem_g]; exact hI9
              have hb10 := tok_b f ht10 hq
              have s10 : t10 = c_al f q.2 S := by rw [d10, c_al, c_a5, ← s9, p_chk_t c_109]; try rfl
              refine J_wq (congrArg (fun z9 => prW G p s b a f q z9 v10) d10.symm) ?_
              rcases h_119 with ⟨rfl, hc10⟩ | ⟨rfl, hz10⟩
              · refine J_iret hC hR dX5_readAlmanac_122 rfl v10 ?_ ?_ (by decide) (by decide)
                · have eS : c_al f q.2 S = t10 := by rw [s10]
                  rw [eS]
                  exact ⟨Or.inl ⟨rfl, hc10⟩, hv10⟩
                · have eS : c_al f q.2 S = t10 := by rw [s10]
                  rw [eS]
              · refine J_iret hC hR dX5_readAlmanac_122 rfl v10 ?_ ?_ (by decide) (by decide)
                · have eS : c_al f q.2 S = t10 := by rw [s10]
                  rw [eS]
                  exact ⟨Or.inr ⟨rfl, hz10⟩, hv10⟩
                · have eS : c_al f q.2 S = t10 := by rw [s10]
                  rw [eS]
            · refine J_aload_n hC dX5_readAlmanac_112 1 rfl rfl ?_
              refine J_iconst (v := 2) hC dX5_readAlmanac_113 rfl ?_
              refine J_callVi hC dX5_readAlmanac_114 wl_X5_52 yi_X5_fail (c_X5_fail _ G p s b a f q t9 v8 2) rfl rfl 0 5 rfl rfl ⟨Nat.le_of_ble_eq_true rfl, Nat.le_of_ble_eq_true rfl⟩ (Nat.le_of_ble_eq_true rfl) (Nat.le_of_ble_eq_true rfl) (Nat.le_of_ble_eq_true rfl) (fun r u h_114 => ?_)
              subst h_114
              obtain ⟨t10, d10⟩ : ∃ z9, z9 = (t9.1, t9.2.1, (2 : Int32), nI (tS f q.2 t9.2.1)) := ⟨_, rfl⟩
              have hz10 : ¬ t10.2.2.1 = 0 := by rw [d10]; show ¬ (2 : Int32) = 0; decide
              have hv10 : NU f q.2 t10.2.1 v8 := by rw [d10]; exact hv9
              refine J_wq (congrArg (fun z9 => prW G p s b a f q z9 v8) d10.symm) ?_
              refine J_iret hC hR dX5_readAlmanac_117 rfl v8 ?_ ?_ (by decide) (by decide)
              · have eS : c_al f q.2 S = t10 := by rw [c_al, show c_a5 f q.2 S = t10 from by rw [c_a5, ← s9, p_chk_f hc9 (fun h => h c_109), d10], c_sem_z hz10]
                rw [eS]
                exact ⟨Or.inr ⟨rfl, hz10⟩, hv10⟩
              · have eS : c_al f q.2 S = t10 := by rw [c_al, show c_a5 f q.2 S = t10 from by rw [c_a5, ← s9, p_chk_f hc9 (fun h => h c_109), d10], c_sem_z hz10]
                rw [eS]
          · refine J_if_ne (tgt := 74) hC dX5_readAlmanac_69 (by decide) (fun c => absurd (by decide) c) (fun _ => ?_)
            refine J_iconst (v := 0) hC dX5_readAlmanac_72 rfl ?_
            refine J_iret hC hR dX5_readAlmanac_73 rfl v8 ?_ ?_ (by decide) (by decide)
            · have eS : c_al f q.2 S = t8 := by rw [c_al, c_a5, c_a4, ← s8]; simp only [c_ss_z hz8, c_so_z hz8, c_num_z hz8, p_chk_z hz8, c_sem_z hz8]
              rw [eS]
              exact ⟨Or.inr ⟨rfl, hz8⟩, hv8⟩
            · have eS : c_al f q.2 S = t8 := by rw [c_al, c_a5, c_a4, ← s8]; simp only [c_ss_z hz8, c_so_z hz8, c_num_z hz8, p_chk_z hz8, c_sem_z hz8]
              rw [eS]
        · refine J_if_ne (tgt := 74) hC dX5_readAlmanac_69 (by decide) (fun c => absurd (by decide) c) (fun _ => ?_)
          refine J_iconst (v := 0) hC dX5_readAlmanac_72 rfl ?_
          refine J_iret hC hR dX5_readAlmanac_73 rfl v6 ?_ ?_ (by decide) (by decide)
          · have eS : c_al f q.2 S = t6 := by rw [c_al, c_a5, c_a4, c_a3, ← s6]; simp only [c_ss_z hz6, c_so_z hz6, c_num_z hz6, p_chk_z hz6, c_sem_z hz6]
            rw [eS]
            exact ⟨Or.inr ⟨rfl, hz6⟩, hv6⟩
          · have eS : c_al f q.2 S = t6 := by rw [c_al, c_a5, c_a4, c_a3, ← s6]; simp only [c_ss_z hz6, c_so_z hz6, c_num_z hz6, p_chk_z hz6, c_sem_z hz6]
            rw [eS]
      · refine J_if_ne (tgt := 74) hC dX5_readAlmanac_69 (by decide) (fun c => absurd (by decide) c) (fun _ => ?_)
        refine J_iconst (v := 0) hC dX5_readAlmanac_72 rfl ?_
        refine J_iret hC hR dX5_readAlmanac_73 rfl v4 ?_ ?_ (by decide) (by decide)
        · have eS : c_al f q.2 S = t4 := by rw [c_al, c_a5, c_a4, c_a3, c_a2, ← s4]; simp only [c_ss_z hz4, c_so_z hz4, c_num_z hz4, p_chk_z hz4, c_sem_z hz4]
          rw [eS]
          exact ⟨Or.inr ⟨rfl, hz4⟩, hv4⟩
        · have eS : c_al f q.2 S = t4 := by rw [c_al, c_a5, c_a4, c_a3, c_a2, ← s4]; simp only [c_ss_z hz4, c_so_z hz4, c_num_z hz4, p_chk_z hz4, c_sem_z hz4]
          rw [eS]
    · refine J_if_ne (tgt := 38) hC dX5_readAlmanac_33 (by decide) (fun c => absurd (by decide) c) (fun _ => ?_)
      refine J_iconst (v := 0) hC dX5_readAlmanac_36 rfl ?_
      refine J_iret hC hR dX5_readAlmanac_37 rfl v2 ?_ ?_ (by decide) (by decide)
      · have eS : c_al f q.2 S = t2 := by rw [c_al, c_a5, c_a4, c_a3, c_a2, c_a1, ← s2]; simp only [c_ss_z hz2, c_so_z hz2, c_num_z hz2, p_chk_z hz2, c_sem_z hz2]
        rw [eS]
        exact ⟨Or.inr ⟨rfl, hz2⟩, hv2⟩
      · have eS : c_al f q.2 S = t2 := by rw [c_al, c_a5, c_a4, c_a3, c_a2, c_a1, ← s2]; simp only [c_ss_z hz2, c_so_z hz2, c_num_z hz2, p_chk_z hz2, c_sem_z hz2]
        rw [eS]
  · refine J_if_ne (tgt := 25) hC dX5_readAlmanac_16 (by decide) (fun c => absurd (by decide) c) (fun _ => ?_)
    refine J_aload_n hC dX5_readAlmanac_19 0 rfl rfl ?_
    refine J_iconst (v := 1) hC dX5_readAlmanac_20 rfl ?_
    refine J_callVi hC dX5_readAlmanac_21 wl_X5_52 yi_X5_fail (c_X5_fail _ G p s b a f q t1 v1 1) rfl rfl 0 5 rfl rfl ⟨Nat.le_of_ble_eq_true rfl, Nat.le_of_ble_eq_true rfl⟩ (Nat.le_of_ble_eq_true rfl) (Nat.le_of_ble_eq_true rfl) (Nat.le_of_ble_eq_true rfl) (fun r u h_21 => ?_)
    subst h_21
    obtain ⟨t2, d2⟩ : ∃ z9, z9 = (t1.1, t1.2.1, (1 : Int32), nI (tS f q.2 t1.2.1)) := ⟨_, rfl⟩
    have hz2 : ¬ t2.2.2.1 = 0 := by rw [d2]; show ¬ (1 : Int32) = 0; decide
    have hv2 : NU f q.2 t2.2.1 v1 := by rw [d2]; exact hv1
    refine J_wq (congrArg (fun z9 => prW G p s b a f q z9 v1) d2.symm) ?_
    refine J_iret hC hR dX5_readAlmanac_24 rfl v1 ?_ ?_ (by decide) (by decide)
    · have eS : c_al f q.2 S = t2 := by rw [c_al, c_a5, c_a4, c_a3, c_a2, c_a1, c_a0_f (by rw [e1] at c_13; exact c_13), show ((S, 0, 1, nI (tS f q.2 0)) : PS CT) = t2 from by rw [d2, d1]]; simp only [c_ss_z hz2, c_so_z hz2, c_num_z hz2, p_chk_z hz2, c_sem_z hz2]
      rw [eS]
      exact ⟨Or.inr ⟨rfl, hz2⟩, hv2⟩
    · have eS : c_al f q.2 S = t2 := by rw [c_al, c_a5, c_a4, c_a3, c_a2, c_a1, c_a0_f (by rw [e1] at c_13; exact c_13), show ((S, 0, 1, nI (tS f q.2 0)) : PS CT) = t2 from by rw [d2, d1]]; simp only [c_ss_z hz2, c_so_z hz2, c_num_z hz2, p_chk_z hz2, c_sem_z hz2]
      rw [eS]

section ALX
variable {f : RT} {il : Nat} {S : CT}
theorem CI_ss {t : PS CT} (h : CI t.1) : CI (c_ss f il t).1 := by
  unfold c_ss; split
  · dsimp only; exact CI_us h 16 11 _ (Or.inr rfl)
  · exact h
theorem CI_so {t : PS CT} (i : Nat) (h : CI t.1) : CI (c_so f il t i).1 := by
  unfold c_so; split
  · dsimp only; exact CI_us h 8 i _ (Or.inl (by decide))
  · exact h
theorem PE_ss {t : PS CT} (h : t.2.1 ≤ il) : (c_ss f il t).2.1 ≤ il := by unfold c_ss; split <;> exact h
theorem PE_so {t : PS CT} {i : Nat} (h : t.2.1 ≤ il) : (c_so f il t i).2.1 ≤ il := by unfold c_so; split <;> exact h
theorem CI_al (h : CI S) : CI (c_al f il S).1 := by
  have h0 : CI (c_a0 f il S).1 := by rw [c_a0, p_chk_g]; exact h
  have h1 : CI (c_a1 f il S).1 := by rw [c_a1]; exact CI_ss (by rw [c_num_g]; exact h0)
  have h2 : CI (c_a2 f il S).1 := by rw [c_a2]; exact CI_so _ (by rw [c_num_g]; exact h1)
  have h3 : CI (c_a3 f il S).1 := by rw [c_a3]; exact CI_so _ (by rw [c_num_g]; exact h2)
  have h4 : CI (c_a4 f il S).1 := by rw [c_a4]; exact CI_so _ (by rw [c_num_g]; exact h3)
  rw [c_al, c_sem_g, c_a5, p_chk_g]
  exact h4
theorem PEc_al : (c_al f il S).2.1 ≤ il := by
  have h0 : (c_a0 f il S).2.1 ≤ il := by rw [c_a0, p_chk_e]; exact Nat.zero_le _
  have h1 : (c_a1 f il S).2.1 ≤ il := by rw [c_a1]; exact PE_ss (PEc_num h0)
  have h2 : (c_a2 f il S).2.1 ≤ il := by rw [c_a2]; exact PE_so (PEc_num h1)
  have h3 : (c_a3 f il S).2.1 ≤ il := by rw [c_a3]; exact PE_so (PEc_num h2)
  have h4 : (c_a4 f il S).2.1 ≤ il := by rw [c_a4]; exact PE_so (PEc_num h3)
  rw [c_al, c_a5]
  exact PEc_sem (PE_chk h4)
end ALX

set_option maxRecDepth 100000 in
set_option maxHeartbeats 4000000 in
theorem c_X5_readText (l : Launch) (G : gT) (p s : Nat) (b a : Nat → Nat) (f : RT) (q : RT × Nat) (S : CT) (hf : ∀ j, j < q.2 → q.1 j &&& 255 = f j) (hq : q.2 ≤ 600) (hI : CI S) : MI l yX5_readText cX5_readText 2 (some .boolean) { frames := 8, cells := 0, slots := 0, locals := 170 } [.ref (p)] G (prR G p s b a q S) (fun r (u : Int32) => ((r = 1 ∧ (c_txt f q.2 S).2.2.1 = 0) ∨ (r = 0 ∧ ¬ (c_txt f q.2 S).2.2.1 = 0)) ∧ NU f q.2 (c_txt f q.2 S).2.1 u) (fun u => prW G p s b a f q (c_txt f q.2 S) u) := by
  refine jm_i (own := RX5) (by decide) rfl (Nat.le_of_ble_eq_true rfl) (fun x hl hC hR hN => ?_)
  subst hl
  have key : ∀ fuel : Nat, (∀ (i : Nat) (t : PS CT) (v : Int32), (i ≤ 600) → (t.2.1 ≤ q.2) → (t.2.2.1 = 0) → (NU f q.2 t.2.1 v) → (CI t.1) → (c_lp f q.2 600 (p_nxt f q.2 (c_al f q.2 S)) = c_lp f q.2 (600 - i) t) → 600 - i < fuel → J x G (prW G p s b a f q t v) 0 0 [(0, .ref p), (1, .int (nI i))] [] 18) := by
    intro fuel
    induction fuel with
    | zero => exact fun _ _ _ _ _ _ _ _ _ h => absurd h (Nat.not_lt_zero _)
    | succ fuel ih =>
      intro i t v hi ht hc hv hIt hL hmu
      have hb0 := tok_b f ht hq
      refine J_iload_n hC dX5_readText_18 1 rfl rfl ?_
      refine J_sipush (v := 600) hC dX5_readText_19 (by decide +kernel) ?_
      refine J_ic_geN (a := i) (b := 600) (tgt := 57) hC dX5_readText_22 (by decide) (by omega) (by omega) (fun (c_22 : 600 ≤ i) => ?_) (fun (c_22 : i < 600) => ?_)
      · refine J_iconst (v := 1) hC dX5_readText_57 rfl ?_
        refine J_iret hC hR dX5_readText_58 rfl v ?_ ?_ (by decide) (by decide)
        · have eS : c_txt f q.2 S = t := by rw [c_txt, hL, show 600 - i = 0 by omega]; rfl
          rw [eS]
          exact ⟨Or.inl ⟨rfl, hc⟩, hv⟩
        · have eS : c_txt f q.2 S = t := by rw [c_txt, hL, show 600 - i = 0 by omega]; rfl
          rw [eS]
      · refine J_aload_n hC dX5_readText_25 0 rfl rfl ?_
        refine J_get (v := .ref s) hC wu_X5 rfl dX5_readText_26 0 0 (by decide) wf_X5_23 rfl rfl ?_
        refine J_get (v := .int (kC (tK f q.2 t.2.1))) hC wu_X6 rfl dX5_readText_29 1 1 (by decide) wf_X5_40 rfl rfl ?_
        refine J_if_eq (tgt := 57) hC dX5_readText_32 (by decide) (fun (c_32 : (kC (tK f q.2 t.2.1)) = 0) => ?_) (fun (c_32 : ¬ (kC (tK f q.2 t.2.1)) = 0) => ?_)
        · refine J_iconst (v := 1) hC dX5_readText_57 rfl ?_
          refine J_iret hC hR dX5_readText_58 rfl v ?_ ?_ (by decide) (by decide)
          · have eS : c_txt f q.2 S = t := by rw [c_txt, hL, c_lp_end (Or.inr ((kC_0 (tK_le3 f q.2 t.2.1)).mp c_32))]
            rw [eS]
            exact ⟨Or.inl ⟨rfl, hc⟩, hv⟩
          · have eS : c_txt f q.2 S = t := by rw [c_txt, hL, c_lp_end (Or.inr ((kC_0 (tK_le3 f q.2 t.2.1)).mp c_32))]
            rw [eS]
        · refine J_aload_n hC dX5_readText_35 0 rfl rfl ?_
          refine J_callVi hC dX5_readText_36 wl_X5_43 yi_X5_readStatement (c_X5_readStatement _ G p s b a f q t v hf hq ht hc hv hIt) rfl rfl 0 5 rfl rfl ⟨Nat.le_of_ble_eq_true rfl, Nat.le_of_ble_eq_true rfl⟩ (Nat.le_of_ble_eq_true rfl) (Nat.le_of_ble_eq_true rfl) (Nat.le_of_ble_eq_true rfl) (fun r v1 h_36 => ?_)
          obtain ⟨t1, d1⟩ : ∃ z9, z9 = c_st f q.2 t := ⟨_, rfl⟩
          rw [← d1] at h_36
          obtain ⟨h_36, hv1⟩ := h_36
          have ht1 : t1.2.1 ≤ q.2 := by rw [d1]; exact PEc_st ht
          have hI1 : CI t1.1 := by rw [d1]; exact CI_st hIt
          have hb1 := tok_b f ht1 hq
          refine J_wq (congrArg (fun z9 => prW G p s b a f q z9 v1) d1.symm) ?_
          rcases h_36 with ⟨rfl, hc1⟩ | ⟨rfl, hz1⟩
          · refine J_if_ne (tgt := 44) hC dX5_readText_39 (by decide) (fun _ => ?_) (fun c => absurd c (by decide))
            refine J_aload_n hC dX5_readText_44 0 rfl rfl ?_
            refine J_get (v := .ref s) hC wu_X5 rfl dX5_readText_45 0 0 (by decide) wf_X5_23 rfl rfl ?_
            refine J_callVv hC dX5_readText_48 wl_X5_35 yi_X6_next (cons_v (app_v (stW G a t1.1) (c_X6_next _ G s b f q (kC (tK f q.2 t1.2.1)) (nI (tS f q.2 t1.2.1)) (tE f q.2 t1.2.1) v1 hf hq (tE_le f q.2 _ ht1).2))) rfl rfl 1 6 rfl rfl ⟨Nat.le_of_ble_eq_true rfl, Nat.le_of_ble_eq_true rfl⟩ (Nat.le_of_ble_eq_true rfl) (Nat.le_of_ble_eq_true rfl) (Nat.le_of_ble_eq_true rfl) (fun v2 hv2 => ?_)
            obtain ⟨t2, d2⟩ : ∃ z9, z9 = p_nxt f q.2 t1 := ⟨_, rfl⟩
            have dd2 := d2.trans (p_nxt_pos hc1)
            have hc2 : t2.2.2.1 = 0 := by rw [dd2]; exact hc1
            have ht2 : t2.2.1 ≤ q.2 := by rw [d2]; exact PE_nxt ht1
            have hI2 : CI t2.1 := by rw [dd2]; exact hI1
            have hb2 := tok_b f ht2 hq
            rw [show tE f q.2 t1.2.1 = t2.2.1 from by rw [dd2]] at hv2
            refine J_wq (show _ = prW G p s b a f q t2 v2 from by rw [dd2]; rfl) ?_
            refine J_iinc hC [(1, .int (nI (i + 1))), (0, .ref p)] dX5_readText_51 1 rfl (nI_inc _) (by decide) rfl ?_
            refine J_goto (tgt := 18) hC dX5_readText_54 (by decide) ?_
            refine J_lv (lv' := [(0, .ref p), (1, .int (nI (i + 1)))]) [1, 0] rfl ?_
            exact ih (i + 1) t2 v2 (by omega) (ht2) (hc2) (hv2) (hI2) (by rw [hL, c_lp_go (by omega) hc (fun h => c_32 ((kC_0 (tK_le3 f q.2 t.2.1)).mpr h)), ← d1, ← d2, show 600 - i - 1 = 600 - (i + 1) by omega]) (by omega)
          · refine J_if_ne (tgt := 44) hC dX5_readText_39 (by decide) (fun c => absurd (by decide) c) (fun _ => ?_)
            refine J_iconst (v := 0) hC dX5_readText_42 rfl ?_
            refine J_iret hC hR dX5_readText_43 rfl v1 ?_ ?_ (by decide) (by decide)
            · have eS : c_txt f q.2 S = t1 := by rw [c_txt, hL, c_lp_go (by omega) hc (fun h => c_32 ((kC_0 (tK_le3 f q.2 t.2.1)).mpr h)), ← d1, p_nxt_z hz1, c_lp_end (Or.inl hz1)]
              rw [eS]
              exact ⟨Or.inr ⟨rfl, hz1⟩, hv1⟩
            · have eS : c_txt f q.2 S = t1 := by rw [c_txt, hL, c_lp_go (by omega) hc (fun h => c_32 ((kC_0 (tK_le3 f q.2 t.2.1)).mpr h)), ← d1, p_nxt_z hz1, c_lp_end (Or.inl hz1)]
              rw [eS]
  refine J_aload_n hC dX5_readText_0 0 rfl rfl ?_
  refine J_callVi hC dX5_readText_1 wl_X5_31 yi_X5_readAlmanac (c_X5_readAlmanac _ G p s b a f q S hf hq hI) rfl rfl 0 5 rfl rfl ⟨Nat.le_of_ble_eq_true rfl, Nat.le_of_ble_eq_true rfl⟩ (Nat.le_of_ble_eq_true rfl) (Nat.le_of_ble_eq_true rfl) (Nat.le_of_ble_eq_true rfl) (fun r v1 h_1 => ?_)
  obtain ⟨t1, d1⟩ : ∃ z9, z9 = c_al f q.2 S := ⟨_, rfl⟩
  rw [← d1] at h_1
  obtain ⟨h_1, hv1⟩ := h_1
  have ht1 : t1.2.1 ≤ q.2 := by rw [d1]; exact PEc_al
  have hI1 : CI t1.1 := by rw [d1]; exact CI_al hI
  have hb1 := tok_b f ht1 hq
  refine J_wq (congrArg (fun z9 => prW G p s b a f q z9 v1) d1.symm) ?_
  rcases h_1 with ⟨rfl, hc1⟩ | ⟨rfl, hz1⟩
  · refine J_if_ne (tgt := 9) hC dX5_readText_4 (by decide) (fun _ => ?_) (fun c => absurd c (by decide))
    refine J_aload_n hC dX5_readText_9 0 rfl rfl ?_
    refine J_get (v := .ref s) hC wu_X5 rfl dX5_readText_10 0 0 (by decide) wf_X5_23 rfl rfl ?_
    refine J_callVv hC dX5_readText_13 wl_X5_35 yi_X6_next (cons_v (app_v (stW G a t1.1) (c_X6_next _ G s b f q (kC (tK f q.2 t1.2.1)) (nI (tS f q.2 t1.2.1)) (tE f q.2 t1.2.1) v1 hf hq (tE_le f q.2 _ ht1).2))) rfl rfl 1 6 rfl rfl ⟨Nat.le_of_ble_eq_true rfl, Nat.le_of_ble_eq_true rfl⟩ (Nat.le_of_ble_eq_true rfl) (Nat.le_of_ble_eq_true rfl) (Nat.le_of_ble_eq_true rfl) (fun v2 hv2 => ?_)
    obtain ⟨t2, d2⟩ : ∃ z9, z9 = p_nxt f q.2 t1 := ⟨_, rfl⟩
    have dd2 := d2.trans (p_nxt_pos hc1)
    have hc2 : t2.2.2.1 = 0 := by rw [dd2]; exact hc1
    have ht2 : t2.2.1 ≤ q.2 := by rw [d2]; exact PE_nxt ht1
    have hI2 : CI t2.1 := by rw [dd2]; exact hI1
    have hb2 := tok_b f ht2 hq
    rw [show tE f q.2 t1.2.1 = t2.2.1 from by rw [dd2]] at hv2
    refine J_wq (show _ = prW G p s b a f q t2 v2 from by rw [dd2]; rfl) ?_
    refine J_iconst (v := 0) hC dX5_readText_16 rfl ?_
    refine J_istore_n hC [(1, .int 0), (0, .ref p)] dX5_readText_17 rfl (by decide) rfl ?_
    refine J_lv (lv' := [(0, .ref p), (1, .int 0)]) [1, 0] rfl ?_
    exact (key _) 0 t2 v2 (by omega) (ht2) (hc2) (hv2) (hI2) (by rw [← d1, ← d2]) (Nat.lt_succ_self _)
  · refine J_if_ne (tgt := 9) hC dX5_readText_4 (by decide) (fun c => absurd (by decide) c) (fun _ => ?_)
    refine J_iconst (v := 0) hC dX5_readText_7 rfl ?_
    refine J_iret hC hR dX5_readText_8 rfl v1 ?_ ?_ (by decide) (by decide)
    · have eS : c_txt f q.2 S = t1 := by rw [c_txt, ← d1, p_nxt_z hz1, c_lp_end (Or.inl hz1)]
      rw [eS]
      exact ⟨Or.inr ⟨rfl, hz1⟩, hv1⟩
    · have eS : c_txt f q.2 S = t1 := by rw [c_txt, ← d1, p_nxt_z hz1, c_lp_end (Or.inl hz1)]
      rw [eS]


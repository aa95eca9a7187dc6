/-- the two slots: the array, the flags, the States -/
def slF (B : Nat → Nat → Nat) (i : Nat) : Option Nat := if i < 2 then some (B i 0) else none
def slW (G : gT) (s f : Nat) (B : Nat → Nat → Nat) (L : Nat → CT) (fl : Nat → Int32) : va_W := (s, .inl (gc G 3, 2, .inr (.inr (.inr (.inr (slF B)))))) :: (f, .inl (gc G 2, 2, .inl fl)) :: (stW G (B 0) (L 0) ++ stW G (B 1) (L 1))
theorem slF_at (B : Nat → Nat → Nat) {i : Nat} (h : i < 2) : slF B i = some (B i 0) := if_pos h
theorem slot_nat {v : Int32} (h : ¬ v < 0 ∧ ¬ 1 < v) : ∃ w, w < 2 ∧ v = nI w := has_nat (n := 2) ⟨h.1, by
  have h2 := h.2
  rw [Int32.lt_iff_toInt_lt] at h2 ⊢
  have e2 : (1 : Int32).toInt = 1 := by decide
  have e3 : (nI 2 : Int32).toInt = 2 := by decide
  omega⟩ (by decide)

theorem nI_z : nI 0 = 0 := rfl
theorem CI_clear (D : CT) : CI (s_clear D) := by
  have h1 : bcO (s_clear D) = 0 := rfl
  have h2 : vcO (s_clear D) = 0 := rfl
  have h3 : fcO (s_clear D) = 0 := rfl
  have h4 : mcO (s_clear D) = 0 := rfl
  exact ⟨⟨by rw [h1]; rfl, by omega⟩, ⟨by rw [h2]; rfl, by omega⟩, ⟨by rw [h3]; rfl, by omega⟩, ⟨by rw [h4]; rfl, by omega⟩⟩
/-- the office, its history, the draft and the input -/
def ldW (G : gT) (o : Nat) (R a d bi : Nat → Nat) (S D : CT) (ec ep : Int32) (hi : va_W) (q : RT × Nat) : va_W := oW G o R a S ec ep ++ (hi ++ (stW G d D ++ byQ G bi q))

set_option maxRecDepth 100000 in
set_option maxHeartbeats 4000000 in
theorem c_X10_load (l : Launch) (G : gT) (o : Nat) (R a : Nat → Nat) (S : CT) (ec ep : Int32) (h r : Nat) (A : Nat → Nat → Nat) (n k : Nat) (T : Nat → CT) (hh : R 3 = h) (hn : n < 8) (hk : k ≤ 8) (d bi : Nat → Nat) (D : CT) (q : RT × Nat) (f : RT) (hd : R 2 = d 0) (hb : R 0 = bi 0) (hq : q.2 ≤ 600) (hf : ∀ j, j < q.2 → q.1 j &&& 255 = f j) (hst : l.stackTraces = false) : TI l yX10_load cX10_load 3 (some .int) { frames := 9, cells := 3, slots := 15, locals := 200 } [.ref o] G (ldW G o R a d bi S D ec ep (hiW G h r A n k T) q) (fun r9 (_ : Unit) => (c_txt f q.2 (s_clear D)).2.2.1 = 0 ∧ r9 = (c_txt f q.2 (s_clear D)).1 16 9) (fun _ => ldW G o R a d bi (c_txt f q.2 (s_clear D)).1 (c_txt f q.2 (s_clear D)).1 (c_txt f q.2 (s_clear D)).2.2.1 (c_txt f q.2 (s_clear D)).2.2.2 (hiW G h r A ((n + 1) % 8) (min (k + 1) 8) (updT T n S)) (q.1, 0)) (fun (_ : Unit) => ¬ (c_txt f q.2 (s_clear D)).2.2.1 = 0) (fun _ => eIAE) (fun _ => ldW G o R a d bi S (c_txt f q.2 (s_clear D)).1 (c_txt f q.2 (s_clear D)).2.2.1 (c_txt f q.2 (s_clear D)).2.2.2 (hiW G h r A n k T) (q.1, 0)) := by
  refine jt_i (own := RX10) hst (by decide) rfl (Nat.le_of_ble_eq_true rfl) (fun x hl hC hR hN => ?_)
  subst hl
  obtain ⟨Dc, hDc⟩ : ∃ z9, z9 = s_clear D := ⟨_, rfl⟩
  have hIc : CI Dc := by rw [hDc]; exact CI_clear D
  refine J_aload_n hC dX10_load_0 0 rfl rfl ?_
  refine J_get (v := .ref (d 0)) hC wu_X10 rfl dX10_load_1 0 3 (by decide) wf_X10_26 rfl (by rw [← hd]; rfl) ?_
  have g0 : (ldW G o R a d bi S D ec ep (hiW G h r A n k T) q).Perm (stW G d D ++ (oW G o R a S ec ep ++ (hiW G h r A n k T ++ byQ G bi q))) := permS (fun e => by simp only [nI_z, ldW, oW, prR, scR, prW, scW, List.map_cons, List.map_append, List.sum_cons, List.sum_append, List.map_nil, List.sum_nil, List.cons_append, List.nil_append]; omega)
  have g1 : (stW G d Dc ++ (oW G o R a S ec ep ++ (hiW G h r A n k T ++ byQ G bi q))).Perm (ldW G o R a d bi S Dc ec ep (hiW G h r A n k T) q) := permS (fun e => by simp only [nI_z, ldW, oW, prR, scR, prW, scW, List.map_cons, List.map_append, List.sum_cons, List.sum_append, List.map_nil, List.sum_nil, List.cons_append, List.nil_append]; omega)
  rw [hDc] at g1
  refine J_callVv hC dX10_load_4 wl_X10_88 yi_X8_clear (fr_v (c_X8_clear (jl x) G d D) g0 (fun _ => g1)) rfl rfl 201 8 rfl rfl ⟨Nat.le_of_ble_eq_true rfl, Nat.le_of_ble_eq_true rfl⟩ (Nat.le_of_ble_eq_true rfl) (Nat.le_of_ble_eq_true rfl) (Nat.le_of_ble_eq_true rfl) (fun u8 h8 => ?_)
  rw [← hDc]
  refine J_new (ci := 5) hC [.null, .null, .int 0, .int 0] wu_X5 rfl tyX5_ok dX10_load_7 wk_X10_57 wt_X5 wi_X5 (fun j hj => by rcases (show j = 0 ∨ j = 1 ∨ j = 2 ∨ j = 3 by omega) with rfl | rfl | rfl | rfl <;> rfl) (by decide) (by decide) (fun p => ?_)
  refine J_dup hC dX10_load_10 rfl ?_
  refine J_aload_n hC dX10_load_11 0 rfl rfl ?_
  refine J_get (v := .ref (bi 0)) hC wu_X10 rfl dX10_load_12 0 0 (by decide) wf_X10_10 rfl (by rw [← hb]; rfl) ?_
  refine J_aload_n hC dX10_load_15 0 rfl rfl ?_
  refine J_get (v := .ref (d 0)) hC wu_X10 rfl dX10_load_16 0 3 (by decide) wf_X10_26 rfl (by rw [← hd]; rfl) ?_
  refine J_callC hC dX10_load_19 wl_X10_59 yc_X5 (appr_v (ldW G o R a d bi S Dc ec ep (hiW G h r A n k T) q) (c_X5_init _ G p (bi 0) (d 0))) rfl rfl ⟨Nat.le_of_ble_eq_true rfl, Nat.le_of_ble_eq_true rfl⟩ (Nat.le_of_ble_eq_true rfl) (Nat.le_of_ble_eq_true rfl) (Nat.le_of_ble_eq_true rfl) (fun s9 _ => ?_)
  refine J_perm (ws' := prR G p s9 bi d q Dc ++ (oW G o R a S ec ep ++ hiW G h r A n k T)) (permS (fun e => by simp only [nI_z, ldW, oW, prR, scR, prW, scW, List.map_cons, List.map_append, List.sum_cons, List.sum_append, List.map_nil, List.sum_nil, List.cons_append, List.nil_append]; omega)) ?_
  refine J_astore_n hC [(1, .ref p), (0, .ref o)] dX10_load_22 rfl (by decide) rfl ?_
  refine J_aload_n hC dX10_load_23 0 rfl rfl ?_
  refine J_callVi hC dX10_load_24 wl_X10_62 yi_X5_readText (app_i (oW G o R a S ec ep ++ hiW G h r A n k T) (c_X5_readText _ G p s9 bi d f q Dc hf hq hIc)) rfl rfl 0 5 rfl rfl ⟨Nat.le_of_ble_eq_true rfl, Nat.le_of_ble_eq_true rfl⟩ (Nat.le_of_ble_eq_true rfl) (Nat.le_of_ble_eq_true rfl) (Nat.le_of_ble_eq_true rfl) (fun r9 u9 h9 => ?_)
  obtain ⟨h9, -⟩ := h9
  obtain ⟨t, ht⟩ : ∃ z9, z9 = c_txt f q.2 Dc := ⟨_, rfl⟩
  rw [← ht] at h9
  refine J_wq (congrArg (fun z9 => prW G p s9 bi d f q z9 u9 ++ (oW G o R a S ec ep ++ hiW G h r A n k T)) ht.symm) ?_
  have ht2 : t = c_txt f q.2 (s_clear D) := by rw [ht, hDc]
  refine J_istore_n hC [(2, .int r9), (1, .ref p), (0, .ref o)] dX10_load_27 rfl (by decide) rfl ?_
  refine J_aload_n hC dX10_load_28 2 rfl rfl ?_
  refine J_get (v := .ref (bi 0)) hC wu_X10 rfl dX10_load_29 26 0 (by decide) wf_X10_10 rfl (by rw [← hb]; rfl) ?_
  refine J_iconst (v := nI 0) hC dX10_load_32 rfl ?_
  refine J_put (ws' := ((p, .inr (5, [.ref s9, .ref (d 0), .int t.2.2.1, .int t.2.2.2])) :: (s9, .inr (6, [.ref (bi 0), .int (kC (tK f q.2 t.2.1)), .int (nI (tS f q.2 t.2.1)), .int (nI (tE f q.2 t.2.1)), .int u9])) :: (byQ G bi (q.1, 0) ++ stW G d t.1)) ++ (oW G o R a S ec ep ++ hiW G h r A n k T)) hC wu_X1 rfl tyX1_ok nmX1 dX10_load_33 2 1 (by decide) wf_X10_81 rfl rfl (Nat.le_of_ble_eq_true rfl) rfl rfl rfl ?_
  refine J_aload_n hC dX10_load_36 2 rfl rfl ?_
  refine J_aload_n hC dX10_load_37 1 rfl rfl ?_
  refine J_get (v := .int t.2.2.1) hC wu_X5 rfl dX10_load_38 0 2 (by decide) wf_X10_91 rfl rfl ?_
  refine J_put (ws' := ((p, .inr (5, [.ref s9, .ref (d 0), .int t.2.2.1, .int t.2.2.2])) :: (s9, .inr (6, [.ref (bi 0), .int (kC (tK f q.2 t.2.1)), .int (nI (tS f q.2 t.2.1)), .int (nI (tE f q.2 t.2.1)), .int u9])) :: (byQ G bi (q.1, 0) ++ stW G d t.1)) ++ (oW G o R a S t.2.2.1 ep ++ hiW G h r A n k T)) hC wu_X10 rfl tyX10_ok nmX10 dX10_load_41 26 7 (by decide) wf_X10_44 rfl rfl (Nat.le_of_ble_eq_true rfl) rfl rfl rfl ?_
  refine J_aload_n hC dX10_load_44 2 rfl rfl ?_
  refine J_aload_n hC dX10_load_45 1 rfl rfl ?_
  refine J_get (v := .int t.2.2.2) hC wu_X5 rfl dX10_load_46 0 3 (by decide) wf_X10_92 rfl rfl ?_
  refine J_put (ws' := ((p, .inr (5, [.ref s9, .ref (d 0), .int t.2.2.1, .int t.2.2.2])) :: (s9, .inr (6, [.ref (bi 0), .int (kC (tK f q.2 t.2.1)), .int (nI (tS f q.2 t.2.1)), .int (nI (tE f q.2 t.2.1)), .int u9])) :: (byQ G bi (q.1, 0) ++ stW G d t.1)) ++ (oW G o R a S t.2.2.1 t.2.2.2 ++ hiW G h r A n k T)) hC wu_X10 rfl tyX10_ok nmX10 dX10_load_49 26 8 (by decide) wf_X10_48 rfl rfl (Nat.le_of_ble_eq_true rfl) rfl rfl rfl ?_
  refine J_iload_n hC dX10_load_52 0 rfl rfl ?_
  refine J_sub (ws' := ldW G o R a d bi S t.1 t.2.2.1 t.2.2.2 (hiW G h r A n k T) (q.1, 0)) [(p, .inr (5, [.ref s9, .ref (d 0), .int t.2.2.1, .int t.2.2.2])), (s9, .inr (6, [.ref (bi 0), .int (kC (tK f q.2 t.2.1)), .int (nI (tS f q.2 t.2.1)), .int (nI (tE f q.2 t.2.1)), .int u9]))] (permS (fun e => by simp only [nI_z, ldW, oW, prR, scR, prW, scW, List.map_cons, List.map_append, List.sum_cons, List.sum_append, List.map_nil, List.sum_nil, List.cons_append, List.nil_append]; omega)) ?_
  rcases h9 with ⟨rfl, c⟩ | ⟨rfl, c⟩
  · refine J_if_ne (tgt := 64) hC dX10_load_53 (by decide) (fun _ => ?_) (fun c9 => absurd c9 (by decide))
    refine J_aload_n hC dX10_load_64 2 rfl rfl ?_
    refine J_get (v := .ref h) hC wu_X10 rfl dX10_load_65 0 4 (by decide) wf_X10_32 rfl (by rw [← hh]; rfl) ?_
    refine J_aload_n hC dX10_load_68 2 rfl rfl ?_
    refine J_get (v := .ref (a 0)) hC wu_X10 rfl dX10_load_69 0 2 (by decide) wf_X10_22 rfl rfl ?_
    have g2 : (ldW G o R a d bi S t.1 t.2.2.1 t.2.2.2 (hiW G h r A n k T) (q.1, 0)).Perm ((hiW G h r A n k T ++ stW G a S) ++ ((o, .inr (10, [.ref (R 0), .ref (R 1), .ref (a 0), .ref (R 2), .ref (R 3), .ref (R 4), .ref (R 5), .int t.2.2.1, .int t.2.2.2])) :: (stW G d t.1 ++ byQ G bi (q.1, 0)))) := permS (fun e => by simp only [nI_z, ldW, oW, prR, scR, prW, scW, List.map_cons, List.map_append, List.sum_cons, List.sum_append, List.map_nil, List.sum_nil, List.cons_append, List.nil_append]; omega)
    have g3 : ((hiW G h r A ((n + 1) % 8) (min (k + 1) 8) (updT T n S) ++ stW G a S) ++ ((o, .inr (10, [.ref (R 0), .ref (R 1), .ref (a 0), .ref (R 2), .ref (R 3), .ref (R 4), .ref (R 5), .int t.2.2.1, .int t.2.2.2])) :: (stW G d t.1 ++ byQ G bi (q.1, 0)))).Perm (ldW G o R a d bi S t.1 t.2.2.1 t.2.2.2 (hiW G h r A ((n + 1) % 8) (min (k + 1) 8) (updT T n S)) (q.1, 0)) := permS (fun e => by simp only [nI_z, ldW, oW, prR, scR, prW, scW, List.map_cons, List.map_append, List.sum_cons, List.sum_append, List.map_nil, List.sum_nil, List.cons_append, List.nil_append]; omega)
    refine J_callVv hC dX10_load_72 wl_X10_96 yi_X3_remember (fr_v (c_X3_remember (jl x) G h r A n k T a S hn hk) g2 (fun _ => g3)) rfl rfl 23 3 rfl rfl ⟨Nat.le_of_ble_eq_true rfl, Nat.le_of_ble_eq_true rfl⟩ (Nat.le_of_ble_eq_true rfl) (Nat.le_of_ble_eq_true rfl) (Nat.le_of_ble_eq_true rfl) (fun u7 h7 => ?_)
    refine J_aload_n hC dX10_load_75 2 rfl rfl ?_
    refine J_get (v := .ref (a 0)) hC wu_X10 rfl dX10_load_76 0 2 (by decide) wf_X10_22 rfl rfl ?_
    refine J_aload_n hC dX10_load_79 2 rfl rfl ?_
    refine J_get (v := .ref (d 0)) hC wu_X10 rfl dX10_load_80 0 3 (by decide) wf_X10_26 rfl (by rw [← hd]; rfl) ?_
    have g4 : (ldW G o R a d bi S t.1 t.2.2.1 t.2.2.2 (hiW G h r A ((n + 1) % 8) (min (k + 1) 8) (updT T n S)) (q.1, 0)).Perm ((stW G a S ++ stW G d t.1) ++ ((o, .inr (10, [.ref (R 0), .ref (R 1), .ref (a 0), .ref (R 2), .ref (R 3), .ref (R 4), .ref (R 5), .int t.2.2.1, .int t.2.2.2])) :: (hiW G h r A ((n + 1) % 8) (min (k + 1) 8) (updT T n S) ++ byQ G bi (q.1, 0)))) := permS (fun e => by simp only [nI_z, ldW, oW, prR, scR, prW, scW, List.map_cons, List.map_append, List.sum_cons, List.sum_append, List.map_nil, List.sum_nil, List.cons_append, List.nil_append]; omega)
    have g5 : ((stW G a t.1 ++ stW G d t.1) ++ ((o, .inr (10, [.ref (R 0), .ref (R 1), .ref (a 0), .ref (R 2), .ref (R 3), .ref (R 4), .ref (R 5), .int t.2.2.1, .int t.2.2.2])) :: (hiW G h r A ((n + 1) % 8) (min (k + 1) 8) (updT T n S) ++ byQ G bi (q.1, 0)))).Perm (ldW G o R a d bi t.1 t.1 t.2.2.1 t.2.2.2 (hiW G h r A ((n + 1) % 8) (min (k + 1) 8) (updT T n S)) (q.1, 0)) := permS (fun e => by simp only [nI_z, ldW, oW, prR, scR, prW, scW, List.map_cons, List.map_append, List.sum_cons, List.sum_append, List.map_nil, List.sum_nil, List.cons_append, List.nil_append]; omega)
    refine J_callVv hC dX10_load_83 wl_X10_66 yi_X8_takeFrom (fr_v (c_X8_takeFrom (jl x) G a d S t.1) g4 (fun _ => g5)) rfl rfl 1 8 rfl rfl ⟨Nat.le_of_ble_eq_true rfl, Nat.le_of_ble_eq_true rfl⟩ (Nat.le_of_ble_eq_true rfl) (Nat.le_of_ble_eq_true rfl) (Nat.le_of_ble_eq_true rfl) (fun u6 h6 => ?_)
    refine J_aload_n hC dX10_load_86 2 rfl rfl ?_
    refine J_get (v := .ref (a 0)) hC wu_X10 rfl dX10_load_87 0 2 (by decide) wf_X10_22 rfl rfl ?_
    refine J_get (v := .ref (a 1)) hC wu_X8 rfl dX10_load_90 1 0 (by decide) wf_X10_99 rfl rfl ?_
    refine J_get (v := .int (t.1 16 9)) hC wu_X9 rfl dX10_load_93 2 3 (by decide) wf_X10_103 rfl rfl ?_
    rw [ht2] at c ⊢
    exact J_iretT hC hR dX10_load_96 rfl () ⟨c, rfl⟩ rfl (Nat.le_of_ble_eq_true rfl) (Nat.le_of_ble_eq_true rfl)
  · refine J_if_ne (tgt := 64) hC dX10_load_53 (by decide) (fun c9 => absurd rfl c9) (fun _ => ?_)
    rw [ht2] at c ⊢
    exact J_throw0 hC hR.2 gf_IAE gf_names wk_X10_93 wi_IllegalArgumentException wsL_law_x1 gt_IAE gg_IAE dX10_load_56 dX10_load_59 dX10_load_60 dX10_load_63 (by decide) (by decide) (by decide) (by decide) () c rfl rfl (Nat.le_of_ble_eq_true rfl) (Nat.le_of_ble_eq_true rfl)


section CN
variable {f : RT} {il : Nat} {t : PS CT}
theorem c_num_l {lo hi : Int32} (h : (c_num f il t lo hi).2.2.1 = 0) : t.2.2.1 = 0 ∧ tK f il (c_num f il t lo hi).2.1 = 2 ∧ (¬ tW f il (c_num f il t lo hi).2.1 < lo ∧ ¬ hi < tW f il (c_num f il t lo hi).2.1) ∧ c_num f il t lo hi = p_nxt f il t := by
  obtain ⟨h1, h2, h3, h4⟩ := p_lkG_l h
  have e : c_num f il t lo hi = p_nxt f il t := h4
  exact ⟨p_nxt_l h1, by rw [e]; exact h2, by rw [e]; exact h3, e⟩
theorem c_v5_g : (c_v5 f il t).1 = t.1 := by rw [c_v5, c_sem_g, c_v4, c_num_g, c_v3, c_num_g, c_v2, c_nn_g, c_v1, p_chk_g]
theorem c_f7_g : (c_f7 f il t).1 = t.1 := by rw [c_f7, c_sem_g, c_f6, c_num_g, c_f5, c_num_g, c_f4, c_num_g, c_f3, c_kv_g, c_f2, c_nn_g, c_f1, p_chk_g]
end CN
theorem s_ref0 {S : CT} {v d : Int32} {bc : Nat} (h : s_refusal S v d bc = 0) : bc < 30 := by
  unfold s_refusal at h
  split at h
  · split at h
    · split at h
      · assumption
      · exact absurd h (by decide)
    · exact absurd h (by decide)
  · exact absurd h (by decide)

set_option maxRecDepth 100000 in
set_option maxHeartbeats 4000000 in
theorem c_X5_readVillage (l : Launch) (G : gT) (p s : Nat) (b a : Nat → Nat) (f : RT) (q : RT × Nat) (t : PS CT) (v : Int32) (hf : ∀ j, j < q.2 → q.1 j &&& 255 = f j) (hq : q.2 ≤ 600) (ht : t.2.1 ≤ q.2) (hc : t.2.2.1 = 0) (hv : NU f q.2 t.2.1 v) (hI : CI t.1) : MI l yX5_readVillage cX5_readVillage 4 (some .boolean) { frames := 4, cells := 0, slots := 0, locals := 88 } [.ref (p)] G (prW G p s b a f q t v) (fun r (u : Int32) => ((r = 1 ∧ (c_rv f q.2 t).2.2.1 = 0) ∨ (r = 0 ∧ ¬ (c_rv f q.2 t).2.2.1 = 0)) ∧ NU f q.2 (c_rv f q.2 t).2.1 u) (fun u => prW G p s b a f q (c_rv f q.2 t) u) := by
  refine jm_i (own := RX5) (by decide) rfl (Nat.le_of_ble_eq_true rfl) (fun x hl hC hR hN => ?_)
  subst hl
  have hb0 := tok_b f ht hq
  refine J_aload_n hC dX5_readVillage_0 0 rfl rfl ?_
  refine J_get (v := .ref (a 0)) hC wu_X5 rfl dX5_readVillage_1 0 1 (by decide) wf_X5_27 rfl rfl ?_
  refine J_get (v := .ref (a 1)) hC wu_X8 rfl dX5_readVillage_4 4 0 (by decide) wf_X5_110 rfl rfl ?_
  refine J_get (v := .int (t.1 16 9)) hC wu_X9 rfl dX5_readVillage_7 5 3 (by decide) wf_X5_114 rfl rfl ?_
  refine J_bipush (v := 6) hC dX5_readVillage_10 (by decide +kernel) ?_
  refine J_ic_lt (tgt := 21) hC dX5_readVillage_12 (by decide) (fun (c_12 : (t.1 16 9) < 6) => ?_) (fun (c_12 : ¬ (t.1 16 9) < 6) => ?_)
  · refine J_aload_n hC dX5_readVillage_21 0 rfl rfl ?_
    refine J_callVi hC dX5_readVillage_22 wl_X5_119 yi_X5_readNewName (c_X5_readNewName _ G p s b a f q t v hf hq ht hc hv hI) rfl rfl 0 5 rfl rfl ⟨Nat.le_of_ble_eq_true rfl, Nat.le_of_ble_eq_true rfl⟩ (Nat.le_of_ble_eq_true rfl) (Nat.le_of_ble_eq_true rfl) (Nat.le_of_ble_eq_true rfl) (fun r v1 h_22 => ?_)
    obtain ⟨t1, d1⟩ : ∃ z9, z9 = c_nn f q.2 t := ⟨_, rfl⟩
    rw [← d1] at h_22
    obtain ⟨h_22, hv1⟩ := h_22
    have ht1 : t1.2.1 ≤ q.2 := by rw [d1]; exact PEc_nn ht
    have hI1 : CI t1.1 := by rw [d1, c_nn_g]; exact hI
    have hb1 := tok_b f ht1 hq
    have s1 : t1 = c_v2 f q.2 t := by rw [d1, c_v2, c_v1, p_chk_t c_12]; try rfl
    refine J_wq (congrArg (fun z9 => prW G p s b a f q z9 v1) d1.symm) ?_
    rcases h_22 with ⟨rfl, hc1⟩ | ⟨rfl, hz1⟩
    · refine J_if_ne (tgt := 30) hC dX5_readVillage_25 (by decide) (fun _ => ?_) (fun c => absurd c (by decide))
      refine J_aload_n hC dX5_readVillage_30 0 rfl rfl ?_
      refine J_get (v := .ref s) hC wu_X5 rfl dX5_readVillage_31 0 0 (by decide) wf_X5_23 rfl rfl ?_
      refine J_callVi hC dX5_readVillage_34 wl_X5_122 yi_X6_name (cons_i (app_i (stW G a t1.1) (c_X6_name _ G s b f q t1.2.1 v1 hf hq ht1))) rfl rfl 1 6 rfl rfl ⟨Nat.le_of_ble_eq_true rfl, Nat.le_of_ble_eq_true rfl⟩ (Nat.le_of_ble_eq_true rfl) (Nat.le_of_ble_eq_true rfl) (Nat.le_of_ble_eq_true rfl) (fun r u h_34 => ?_)
      subst h_34
      refine J_wq (show _ = prW G p s b a f q t1 v1 from rfl) ?_
      refine J_topi (show _ = c_nm f q.2 t1 from rfl) ?_
      refine J_istore_n hC [(1, .int (c_nm f q.2 t1)), (0, .ref p)] dX5_readVillage_37 rfl (by decide) rfl ?_
      refine J_aload_n hC dX5_readVillage_38 1 rfl rfl ?_
      refine J_iconst (v := 1) hC dX5_readVillage_39 rfl ?_
      refine J_bipush (v := 99) hC dX5_readVillage_40 (by decide +kernel) ?_
      refine J_callVi hC dX5_readVillage_42 wl_X5_56 yi_X5_readNumber (c_X5_readNumber _ G p s b a f q t1 v1 1 99 hf hq ht1 hc1 hv1 hI1) rfl rfl 0 5 rfl rfl ⟨Nat.le_of_ble_eq_true rfl, Nat.le_of_ble_eq_true rfl⟩ (Nat.le_of_ble_eq_true rfl) (Nat.le_of_ble_eq_true rfl) (Nat.le_of_ble_eq_true rfl) (fun r v2 h_42 => ?_)
      obtain ⟨t2, d2⟩ : ∃ z9, z9 = c_num f q.2 t1 1 99 := ⟨_, rfl⟩
      rw [← d2] at h_42
      obtain ⟨h_42, hv2⟩ := h_42
      have ht2 : t2.2.1 ≤ q.2 := by rw [d2]; exact PEc_num ht1
      have hI2 : CI t2.1 := by rw [d2, c_num_g]; exact hI1
      have hb2 := tok_b f ht2 hq
      have s2 : t2 = c_v3 f q.2 t := by rw [d2, c_v3, ← s1]; try rfl
      refine J_wq (congrArg (fun z9 => prW G p s b a f q z9 v2) d2.symm) ?_
      rcases h_42 with ⟨rfl, hc2⟩ | ⟨rfl, hz2⟩
      · refine J_if_ne (tgt := 50) hC dX5_readVillage_45 (by decide) (fun _ => ?_) (fun c => absurd c (by decide))
        refine J_aload_n hC dX5_readVillage_50 1 rfl rfl ?_
        refine J_get (v := .ref s) hC wu_X5 rfl dX5_readVillage_51 0 0 (by decide) wf_X5_23 rfl rfl ?_
        refine J_get (v := .int v2) hC wu_X6 rfl dX5_readVillage_54 1 4 (by decide) wf_X5_66 rfl rfl ?_
        have w2 : v2 = tW f q.2 t2.2.1 := hv2 (by rw [d2]; exact (c_num_l (by rw [← d2]; exact hc2)).2.1)
        refine J_topi w2 ?_
        refine J_istore_n hC [(2, .int (tW f q.2 t2.2.1)), (1, .int (c_nm f q.2 t1)), (0, .ref p)] dX5_readVillage_57 rfl (by decide) rfl ?_
        refine J_aload_n hC dX5_readVillage_58 2 rfl rfl ?_
        refine J_iconst (v := 0) hC dX5_readVillage_59 rfl ?_
        refine J_bipush (v := 100) hC dX5_readVillage_60 (by decide +kernel) ?_
        refine J_callVi hC dX5_readVillage_62 wl_X5_56 yi_X5_readNumber (c_X5_readNumber _ G p s b a f q t2 v2 0 100 hf hq ht2 hc2 hv2 hI2) rfl rfl 0 5 rfl rfl ⟨Nat.le_of_ble_eq_true rfl, Nat.le_of_ble_eq_true rfl⟩ (Nat.le_of_ble_eq_true rfl) (Nat.le_of_ble_eq_true rfl) (Nat.le_of_ble_eq_true rfl) (fun r v3 h_62 => ?_)
        obtain ⟨t3, d3⟩ : ∃ z9, z9 = c_num f q.2 t2 0 100 := ⟨_, rfl⟩
        rw [← d3] at h_62
        obtain ⟨h_62, hv3⟩ := h_62
        have ht3 : t3.2.1 ≤ q.2 := by rw [d3]; exact PEc_num ht2
        have hI3 : CI t3.1 := by rw [d3, c_num_g]; exact hI2
        have hb3 := tok_b f ht3 hq
        have s3 : t3 = c_v4 f q.2 t := by rw [d3, c_v4, ← s2]; try rfl
        refine J_wq (congrArg (fun z9 => prW G p s b a f q z9 v3) d3.symm) ?_
        rcases h_62 with ⟨rfl, hc3⟩ | ⟨rfl, hz3⟩
        · refine J_if_ne (tgt := 70) hC dX5_readVillage_65 (by decide) (fun _ => ?_) (fun c => absurd c (by decide))
          refine J_aload_n hC dX5_readVillage_70 2 rfl rfl ?_
          refine J_get (v := .ref s) hC wu_X5 rfl dX5_readVillage_71 0 0 (by decide) wf_X5_23 rfl rfl ?_
          refine J_get (v := .int v3) hC wu_X6 rfl dX5_readVillage_74 1 4 (by decide) wf_X5_66 rfl rfl ?_
          have w3 : v3 = tW f q.2 t3.2.1 := hv3 (by rw [d3]; exact (c_num_l (by rw [← d3]; exact hc3)).2.1)
          refine J_topi w3 ?_
          refine J_istore_n hC [(3, .int (tW f q.2 t3.2.1)), (2, .int (tW f q.2 t2.2.1)), (1, .int (c_nm f q.2 t1)), (0, .ref p)] dX5_readVillage_77 rfl (by decide) rfl ?_
          refine J_aload_n hC dX5_readVillage_78 3 rfl rfl ?_
          refine J_callVi hC dX5_readVillage_79 wl_X5_82 yi_X5_readSemicolon (c_X5_readSemicolon _ G p s b a f q t3 v3 hf hq ht3 hc3 hv3 hI3) rfl rfl 0 5 rfl rfl ⟨Nat.le_of_ble_eq_true rfl, Nat.le_of_ble_eq_true rfl⟩ (Nat.le_of_ble_eq_true rfl) (Nat.le_of_ble_eq_true rfl) (Nat.le_of_ble_eq_true rfl) (fun r v4 h_79 => ?_)
          obtain ⟨t4, d4⟩ : ∃ z9, z9 = c_sem f q.2 t3 := ⟨_, rfl⟩
          rw [← d4] at h_79
          obtain ⟨h_79, hv4⟩ := h_79
          have ht4 : t4.2.1 ≤ q.2 := by rw [d4]; exact PEc_sem ht3
          have hI4 : CI t4.1 := by rw [d4, c_sem_g]; exact hI3
          have hb4 := tok_b f ht4 hq
          have s4 : t4 = c_v5 f q.2 t := by rw [d4, c_v5, ← s3]; try rfl
          refine J_wq (congrArg (fun z9 => prW G p s b a f q z9 v4) d4.symm) ?_
          rcases h_79 with ⟨rfl, hc4⟩ | ⟨rfl, hz4⟩
          · refine J_if_ne (tgt := 87) hC dX5_readVillage_82 (by decide) (fun _ => ?_) (fun c => absurd c (by decide))
            have hlt : vcO t4.1 < 6 := lt_of_nI (n := 6) hI4.2.1.1 (by have := hI4.2.1.2; omega) (by omega) (by rw [s4, c_v5_g]; exact c_12)
            refine J_aload_n hC dX5_readVillage_87 3 rfl rfl ?_
            refine J_get (v := .ref (a 0)) hC wu_X5 rfl dX5_readVillage_88 0 1 (by decide) wf_X5_27 rfl rfl ?_
            refine J_get (v := .ref (a 1)) hC wu_X8 rfl dX5_readVillage_91 4 0 (by decide) wf_X5_110 rfl rfl ?_
            refine J_iload_n hC dX5_readVillage_94 2 rfl rfl ?_
            refine J_iload_n hC dX5_readVillage_95 1 rfl rfl ?_
            refine J_iload_n hC dX5_readVillage_96 0 rfl rfl ?_
            refine J_callVv hC dX5_readVillage_97 wl_X5_125 yi_X9_add (cons_v (appr_v (scW G s b f q t4.2.1 v4) (c_X9_add _ G a t4.1 (vcO t4.1) (c_nm f q.2 t1) (tW f q.2 t2.2.1) (tW f q.2 t3.2.1) hI4.2.1.1 (by omega)))) rfl rfl 5 9 rfl rfl ⟨Nat.le_of_ble_eq_true rfl, Nat.le_of_ble_eq_true rfl⟩ (Nat.le_of_ble_eq_true rfl) (Nat.le_of_ble_eq_true rfl) (Nat.le_of_ble_eq_true rfl) (fun _ _ => ?_)
            refine J_wq (show _ = prW G p s b a f q (s_vadd t4.1 (c_nm f q.2 t1) (tW f q.2 t2.2.1) (tW f q.2 t3.2.1) (vcO t4.1), t4.2) v4 from rfl) ?_
            refine J_iconst (v := 1) hC dX5_readVillage_100 rfl ?_
            refine J_iret hC hR dX5_readVillage_101 rfl v4 ?_ ?_ (by decide) (by decide)
            · have eS : c_rv f q.2 t = (s_vadd t4.1 (c_nm f q.2 t1) (tW f q.2 t2.2.1) (tW f q.2 t3.2.1) (vcO t4.1), t4.2) := by rw [c_rv, ← s4, if_pos hc4, ← s1, ← s2, ← s3]
              rw [eS]
              dsimp only
              exact ⟨Or.inl ⟨rfl, hc4⟩, hv4⟩
            · have eS : c_rv f q.2 t = (s_vadd t4.1 (c_nm f q.2 t1) (tW f q.2 t2.2.1) (tW f q.2 t3.2.1) (vcO t4.1), t4.2) := by rw [c_rv, ← s4, if_pos hc4, ← s1, ← s2, ← s3]
              rw [eS]
          · refine J_if_ne (tgt := 87) hC dX5_readVillage_82 (by decide) (fun c => absurd (by decide) c) (fun _ => ?_)
            refine J_iconst (v := 0) hC dX5_readVillage_85 rfl ?_
            refine J_iret hC hR dX5_readVillage_86 rfl v4 ?_ ?_ (by decide) (by decide)
            · have eS : c_rv f q.2 t = t4 := by rw [c_rv, ← s4, if_neg hz4]
              rw [eS]
              exact ⟨Or.inr ⟨rfl, hz4⟩, hv4⟩
            · have eS : c_rv f q.2 t = t4 := by rw [c_rv, ← s4, if_neg hz4]
              rw [eS]
        · refine J_if_ne (tgt := 70) hC dX5_readVillage_65 (by decide) (fun c => absurd (by decide) c) (fun _ => ?_)
          refine J_iconst (v := 0) hC dX5_readVillage_68 rfl ?_
          refine J_iret hC hR dX5_readVillage_69 rfl v3 ?_ ?_ (by decide) (by decide)
          · have eS : c_rv f q.2 t = t3 := by rw [c_rv, c_v5, ← s3, c_sem_z hz3, if_neg hz3]
            rw [eS]
            exact ⟨Or.inr ⟨rfl, hz3⟩, hv3⟩
          · have eS : c_rv f q.2 t = t3 := by rw [c_rv, c_v5, ← s3, c_sem_z hz3, if_neg hz3]
            rw [eS]
      · refine J_if_ne (tgt := 50) hC dX5_readVillage_45 (by decide) (fun c => absurd (by decide) c) (fun _ => ?_)
        refine J_iconst (v := 0) hC dX5_readVillage_48 rfl ?_
        refine J_iret hC hR dX5_readVillage_49 rfl v2 ?_ ?_ (by decide) (by decide)
        · have eS : c_rv f q.2 t = t2 := by rw [c_rv, c_v5, c_v4, ← s2, c_num_z hz2, c_sem_z hz2, if_neg hz2]
          rw [eS]
          exact ⟨Or.inr ⟨rfl, hz2⟩, hv2⟩
        · have eS : c_rv f q.2 t = t2 := by rw [c_rv, c_v5, c_v4, ← s2, c_num_z hz2, c_sem_z hz2, if_neg hz2]
          rw [eS]
    · refine J_if_ne (tgt := 30) hC dX5_readVillage_25 (by decide) (fun c => absurd (by decide) c) (fun _ => ?_)
      refine J_iconst (v := 0) hC dX5_readVillage_28 rfl ?_
      refine J_iret hC hR dX5_readVillage_29 rfl v1 ?_ ?_ (by decide) (by decide)
      · have eS : c_rv f q.2 t = t1 := by rw [c_rv, c_v5, c_v4, c_v3, ← s1, c_num_z hz1, c_num_z hz1, c_sem_z hz1, if_neg hz1]
        rw [eS]
        exact ⟨Or.inr ⟨rfl, hz1⟩, hv1⟩
      · have eS : c_rv f q.2 t = t1 := by rw [c_rv, c_v5, c_v4, c_v3, ← s1, c_num_z hz1, c_num_z hz1, c_sem_z hz1, if_neg hz1]
        rw [eS]
  · refine J_aload_n hC dX5_readVillage_15 0 rfl rfl ?_
    refine J_iconst (v := 5) hC dX5_readVillage_16 rfl ?_
    refine J_callVi hC dX5_readVillage_17 wl_X5_52 yi_X5_fail (c_X5_fail _ G p s b a f q t v 5) rfl rfl 0 5 rfl rfl ⟨Nat.le_of_ble_eq_true rfl, Nat.le_of_ble_eq_true rfl⟩ (Nat.le_of_ble_eq_true rfl) (Nat.le_of_ble_eq_true rfl) (Nat.le_of_ble_eq_true rfl) (fun r u h_17 => ?_)
    subst h_17
    obtain ⟨t1, d1⟩ : ∃ z9, z9 = (t.1, t.2.1, (5 : Int32), nI (tS f q.2 t.2.1)) := ⟨_, rfl⟩
    have hz1 : ¬ t1.2.2.1 = 0 := by rw [d1]; show ¬ (5 : Int32) = 0; decide
    have hv1 : NU f q.2 t1.2.1 v := by rw [d1]; exact hv
    refine J_wq (congrArg (fun z9 => prW G p s b a f q z9 v) d1.symm) ?_
    refine J_iret hC hR dX5_readVillage_20 rfl v ?_ ?_ (by decide) (by decide)
    · have eS : c_rv f q.2 t = t1 := by rw [c_rv, c_v5, c_v4, c_v3, c_v2, show c_v1 f q.2 t = t1 from by rw [c_v1, p_chk_f hc c_12, d1], c_nn_z hz1, c_num_z hz1, c_num_z hz1, c_sem_z hz1, if_neg hz1]
      rw [eS]
      exact ⟨Or.inr ⟨rfl, hz1⟩, hv1⟩
    · have eS : c_rv f q.2 t = t1 := by rw [c_rv, c_v5, c_v4, c_v3, c_v2, show c_v1 f q.2 t = t1 from by rw [c_v1, p_chk_f hc c_12, d1], c_nn_z hz1, c_num_z hz1, c_num_z hz1, c_sem_z hz1, if_neg hz1]
      rw [eS]

set_option maxRecDepth 100000 in
set_option maxHeartbeats 4000000 in
theorem c_X5_readFair (l : Launch) (G : gT) (p s : Nat) (b a : Nat → Nat) (f : RT) (q : RT × Nat) (t : PS CT) (v : Int32) (hf : ∀ j, j < q.2 → q.1 j &&& 255 = f j) (hq : q.2 ≤ 600) (ht : t.2.1 ≤ q.2) (hc : t.2.2.1 = 0) (hv : NU f q.2 t.2.1 v) (hI : CI t.1) : MI l yX5_readFair cX5_readFair 6 (some .boolean) { frames := 4, cells := 0, slots := 0, locals := 88 } [.ref (p)] G (prW G p s b a f q t v) (fun r (u : Int32) => ((r = 1 ∧ (c_rf f q.2 t).2.2.1 = 0) ∨ (r = 0 ∧ ¬ (c_rf f q.2 t).2.2.1 = 0)) ∧ NU f q.2 (c_rf f q.2 t).2.1 u) (fun u => prW G p s b a f q (c_rf f q.2 t) u) := by
  refine jm_i (own := RX5) (by decide) rfl (Nat.le_of_ble_eq_true rfl) (fun x hl hC hR hN => ?_)
  subst hl
  have hb0 := tok_b f ht hq
  refine J_aload_n hC dX5_readFair_0 0 rfl rfl ?_
  refine J_get (v := .ref (a 0)) hC wu_X5 rfl dX5_readFair_1 0 1 (by decide) wf_X5_27 rfl rfl ?_
  refine J_get (v := .ref (a 5)) hC wu_X8 rfl dX5_readFair_4 4 1 (by decide) wf_X5_129 rfl rfl ?_
  refine J_get (v := .int (t.1 16 10)) hC wu_X2 rfl dX5_readFair_7 9 5 (by decide) wf_X5_133 rfl rfl ?_
  refine J_bipush (v := 6) hC dX5_readFair_10 (by decide +kernel) ?_
  refine J_ic_lt (tgt := 21) hC dX5_readFair_12 (by decide) (fun (c_12 : (t.1 16 10) < 6) => ?_) (fun (c_12 : ¬ (t.1 16 10) < 6) => ?_)
  · refine J_aload_n hC dX5_readFair_21 0 rfl rfl ?_
    refine J_callVi hC dX5_readFair_22 wl_X5_119 yi_X5_readNewName (c_X5_readNewName _ G p s b a f q t v hf hq ht hc hv hI) rfl rfl 0 5 rfl rfl ⟨Nat.le_of_ble_eq_true rfl, Nat.le_of_ble_eq_true rfl⟩ (Nat.le_of_ble_eq_true rfl) (Nat.le_of_ble_eq_true rfl) (Nat.le_of_ble_eq_true rfl) (fun r v1 h_22 => ?_)
    obtain ⟨t1, d1⟩ : ∃ z9, z9 = c_nn f q.2 t := ⟨_, rfl⟩
    rw [← d1] at h_22
    obtain ⟨h_22, hv1⟩ := h_22
    have ht1 : t1.2.1 ≤ q.2 := by rw [d1]; exact PEc_nn ht
    have hI1 : CI t1.1 := by rw [d1, c_nn_g]; exact hI
    have hb1 := tok_b f ht1 hq
    have s1 : t1 = c_f2 f q.2 t := by rw [d1, c_f2, c_f1, p_chk_t c_12]; try rfl
    refine J_wq (congrArg (fun z9 => prW G p s b a f q z9 v1) d1.symm) ?_
    rcases h_22 with ⟨rfl, hc1⟩ | ⟨rfl, hz1⟩
    · refine J_if_ne (tgt := 30) hC dX5_readFair_25 (by decide) (fun _ => ?_) (fun c => absurd c (by decide))
      refine J_aload_n hC dX5_readFair_30 0 rfl rfl ?_
      refine J_get (v := .ref s) hC wu_X5 rfl dX5_readFair_31 0 0 (by decide) wf_X5_23 rfl rfl ?_
      refine J_callVi hC dX5_readFair_34 wl_X5_122 yi_X6_name (cons_i (app_i (stW G a t1.1) (c_X6_name _ G s b f q t1.2.1 v1 hf hq ht1))) rfl rfl 1 6 rfl rfl ⟨Nat.le_of_ble_eq_true rfl, Nat.le_of_ble_eq_true rfl⟩ (Nat.le_of_ble_eq_true rfl) (Nat.le_of_ble_eq_true rfl) (Nat.le_of_ble_eq_true rfl) (fun r u h_34 => ?_)
      subst h_34
      refine J_wq (show _ = prW G p s b a f q t1 v1 from rfl) ?_
      refine J_topi (show _ = c_nm f q.2 t1 from rfl) ?_
      refine J_istore_n hC [(1, .int (c_nm f q.2 t1)), (0, .ref p)] dX5_readFair_37 rfl (by decide) rfl ?_
      refine J_aload_n hC dX5_readFair_38 1 rfl rfl ?_
      refine J_callVi hC dX5_readFair_39 wl_X5_136 yi_X5_readKnownVillage (c_X5_readKnownVillage _ G p s b a f q t1 v1 hf hq ht1 hc1 hv1 hI1) rfl rfl 0 5 rfl rfl ⟨Nat.le_of_ble_eq_true rfl, Nat.le_of_ble_eq_true rfl⟩ (Nat.le_of_ble_eq_true rfl) (Nat.le_of_ble_eq_true rfl) (Nat.le_of_ble_eq_true rfl) (fun r v2 h_39 => ?_)
      obtain ⟨t2, d2⟩ : ∃ z9, z9 = c_kv f q.2 t1 := ⟨_, rfl⟩
      rw [← d2] at h_39
      obtain ⟨h_39, hv2⟩ := h_39
      have ht2 : t2.2.1 ≤ q.2 := by rw [d2]; exact PEc_kv ht1
      have hI2 : CI t2.1 := by rw [d2, c_kv_g]; exact hI1
      have hb2 := tok_b f ht2 hq
      have s2 : t2 = c_f3 f q.2 t := by rw [d2, c_f3, ← s1]; try rfl
      refine J_wq (congrArg (fun z9 => prW G p s b a f q z9 v2) d2.symm) ?_
      rcases h_39 with ⟨rfl, hc2⟩ | ⟨rfl, hz2⟩
      · refine J_if_ne (tgt := 47) hC dX5_readFair_42 (by decide) (fun _ => ?_) (fun c => absurd c (by decide))
        refine J_aload_n hC dX5_readFair_47 1 rfl rfl ?_
        refine J_get (v := .ref (a 0)) hC wu_X5 rfl dX5_readFair_48 0 1 (by decide) wf_X5_27 rfl rfl ?_
        refine J_get (v := .ref (a 1)) hC wu_X8 rfl dX5_readFair_51 4 0 (by decide) wf_X5_110 rfl rfl ?_
        refine J_aload_n hC dX5_readFair_54 1 rfl rfl ?_
        refine J_get (v := .ref s) hC wu_X5 rfl dX5_readFair_55 0 0 (by decide) wf_X5_23 rfl rfl ?_
        refine J_callVi hC dX5_readFair_58 wl_X5_122 yi_X6_name (cons_i (app_i (stW G a t2.1) (c_X6_name _ G s b f q t2.2.1 v2 hf hq ht2))) rfl rfl 1 6 rfl rfl ⟨Nat.le_of_ble_eq_true rfl, Nat.le_of_ble_eq_true rfl⟩ (Nat.le_of_ble_eq_true rfl) (Nat.le_of_ble_eq_true rfl) (Nat.le_of_ble_eq_true rfl) (fun r u h_58 => ?_)
        subst h_58
        refine J_wq (show _ = prW G p s b a f q t2 v2 from rfl) ?_
        refine J_topi (show _ = c_nm f q.2 t2 from rfl) ?_
        refine J_callVi hC dX5_readFair_61 wl_X5_139 yi_X9_numberOf (cons_i (appr_i (scW G s b f q t2.2.1 v2) (c_X9_numberOf _ G a t2.1 (vcO t2.1) (c_nm f q.2 t2) hI2.2.1.1 (by have := hI2.2.1.2; omega)))) rfl rfl 5 9 rfl rfl ⟨Nat.le_of_ble_eq_true rfl, Nat.le_of_ble_eq_true rfl⟩ (Nat.le_of_ble_eq_true rfl) (Nat.le_of_ble_eq_true rfl) (Nat.le_of_ble_eq_true rfl) (fun r u h_61 => ?_)
        refine J_wq (show _ = prW G p s b a f q t2 v2 from rfl) ?_
        subst h_61
        refine J_istore_n hC [(2, .int (s_num (t2.1 0) (c_nm f q.2 t2) (vcO t2.1))), (1, .int (c_nm f q.2 t1)), (0, .ref p)] dX5_readFair_64 rfl (by decide) rfl ?_
        refine J_aload_n hC dX5_readFair_65 2 rfl rfl ?_
        refine J_iconst (v := 1) hC dX5_readFair_66 rfl ?_
        refine J_bipush (v := 12) hC dX5_readFair_67 (by decide +kernel) ?_
        refine J_callVi hC dX5_readFair_69 wl_X5_56 yi_X5_readNumber (c_X5_readNumber _ G p s b a f q t2 v2 1 12 hf hq ht2 hc2 hv2 hI2) rfl rfl 0 5 rfl rfl ⟨Nat.le_of_ble_eq_true rfl, Nat.le_of_ble_eq_true rfl⟩ (Nat.le_of_ble_eq_true rfl) (Nat.le_of_ble_eq_true rfl) (Nat.le_of_ble_eq_true rfl) (fun r v3 h_69 => ?_)
        obtain ⟨t3, d3⟩ : ∃ z9, z9 = c_num f q.2 t2 1 12 := ⟨_, rfl⟩
        rw [← d3] at h_69
        obtain ⟨h_69, hv3⟩ := h_69
        have ht3 : t3.2.1 ≤ q.2 := by rw [d3]; exact PEc_num ht2
        have hI3 : CI t3.1 := by rw [d3, c_num_g]; exact hI2
        have hb3 := tok_b f ht3 hq
        have s3 : t3 = c_f4 f q.2 t := by rw [d3, c_f4, ← s2]; try rfl
        refine J_wq (congrArg (fun z9 => prW G p s b a f q z9 v3) d3.symm) ?_
        rcases h_69 with ⟨rfl, hc3⟩ | ⟨rfl, hz3⟩
        · refine J_if_ne (tgt := 77) hC dX5_readFair_72 (by decide) (fun _ => ?_) (fun c => absurd c (by decide))
          refine J_aload_n hC dX5_readFair_77 2 rfl rfl ?_
          refine J_get (v := .ref s) hC wu_X5 rfl dX5_readFair_78 0 0 (by decide) wf_X5_23 rfl rfl ?_
          refine J_get (v := .int v3) hC wu_X6 rfl dX5_readFair_81 1 4 (by decide) wf_X5_66 rfl rfl ?_
          have w3 : v3 = tW f q.2 t3.2.1 := hv3 (by rw [d3]; exact (c_num_l (by rw [← d3]; exact hc3)).2.1)
          refine J_topi w3 ?_
          refine J_istore_n hC [(3, .int (tW f q.2 t3.2.1)), (2, .int (s_num (t2.1 0) (c_nm f q.2 t2) (vcO t2.1))), (1, .int (c_nm f q.2 t1)), (0, .ref p)] dX5_readFair_84 rfl (by decide) rfl ?_
          refine J_aload_n hC dX5_readFair_85 3 rfl rfl ?_
          refine J_iconst (v := 1) hC dX5_readFair_86 rfl ?_
          refine J_bipush (v := 99) hC dX5_readFair_87 (by decide +kernel) ?_
          refine J_callVi hC dX5_readFair_89 wl_X5_56 yi_X5_readNumber (c_X5_readNumber _ G p s b a f q t3 v3 1 99 hf hq ht3 hc3 hv3 hI3) rfl rfl 0 5 rfl rfl ⟨Nat.le_of_ble_eq_true rfl, Nat.le_of_ble_eq_true rfl⟩ (Nat.le_of_ble_eq_true rfl) (Nat.le_of_ble_eq_true rfl) (Nat.le_of_ble_eq_true rfl) (fun r v4 h_89 => ?_)
          obtain ⟨t4, d4⟩ : ∃ z9, z9 = c_num f q.2 t3 1 99 := ⟨_, rfl⟩
          rw [← d4] at h_89
          obtain ⟨h_89, hv4⟩ := h_89
          have ht4 : t4.2.1 ≤ q.2 := by rw [d4]; exact PEc_num ht3
          have hI4 : CI t4.1 := by rw [d4, c_num_g]; exact hI3
          have hb4 := tok_b f ht4 hq
          have s4 : t4 = c_f5 f q.2 t := by rw [d4, c_f5, ← s3]; try rfl
          refine J_wq (congrArg (fun z9 => prW G p s b a f q z9 v4) d4.symm) ?_
          rcases h_89 with ⟨rfl, hc4⟩ | ⟨rfl, hz4⟩
          · refine J_if_ne (tgt := 97) hC dX5_readFair_92 (by decide) (fun _ => ?_) (fun c => absurd c (by decide))
            refine J_aload_n hC dX5_readFair_97 3 rfl rfl ?_
            refine J_get (v := .ref s) hC wu_X5 rfl dX5_readFair_98 0 0 (by decide) wf_X5_23 rfl rfl ?_
            refine J_get (v := .int v4) hC wu_X6 rfl dX5_readFair_101 1 4 (by decide) wf_X5_66 rfl rfl ?_
            have w4 : v4 = tW f q.2 t4.2.1 := hv4 (by rw [d4]; exact (c_num_l (by rw [← d4]; exact hc4)).2.1)
            refine J_topi w4 ?_
            refine J_istore hC [(4, .int (tW f q.2 t4.2.1)), (3, .int (tW f q.2 t3.2.1)), (2, .int (s_num (t2.1 0) (c_nm f q.2 t2) (vcO t2.1))), (1, .int (c_nm f q.2 t1)), (0, .ref p)] dX5_readFair_104 (by decide) rfl ?_
            refine J_aload_n hC dX5_readFair_106 4 rfl rfl ?_
            refine J_iconst (v := 1) hC dX5_readFair_107 rfl ?_
            refine J_bipush (v := 20) hC dX5_readFair_108 (by decide +kernel) ?_
            refine J_callVi hC dX5_readFair_110 wl_X5_56 yi_X5_readNumber (c_X5_readNumber _ G p s b a f q t4 v4 1 20 hf hq ht4 hc4 hv4 hI4) rfl rfl 0 5 rfl rfl ⟨Nat.le_of_ble_eq_true rfl, Nat.le_of_ble_eq_true rfl⟩ (Nat.le_of_ble_eq_true rfl) (Nat.le_of_ble_eq_true rfl) (Nat.le_of_ble_eq_true rfl) (fun r v5 h_110 => ?_)
            obtain ⟨t5, d5⟩ : ∃ z9, z9 = c_num f q.2 t4 1 20 := ⟨_, rfl⟩
            rw [← d5] at h_110
            obtain ⟨h_110, hv5⟩ := h_110
            have ht5 : t5.2.1 ≤ q.2 := by rw [d5]; exact PEc_num ht4
            have hI5 : CI t5.1 := by rw [d5, c_num_g]; exact hI4
            have hb5 := tok_b f ht5 hq
            have s5 : t5 = c_f6 f q.2 t := by rw [d5, c_f6, ← s4]; try rfl
            refine J_wq (congrArg (fun z9 => prW G p s b a f q z9 v5) d5.symm) ?_
            rcases h_110 with ⟨rfl, hc5⟩ | ⟨rfl, hz5⟩
            · refine J_if_ne (tgt := 118) hC dX5_readFair_113 (by decide) (fun _ => ?_) (fun c => absurd c (by decide))
              refine J_aload_n hC dX5_readFair_118 4 rfl rfl ?_
              refine J_get (v := .ref s) hC wu_X5 rfl dX5_readFair_119 0 0 (by decide) wf_X5_23 rfl rfl ?_
              refine J_get (v := .int v5) hC wu_X6 rfl dX5_readFair_122 1 4 (by decide) wf_X5_66 rfl rfl ?_
              have w5 : v5 = tW f q.2 t5.2.1 := hv5 (by rw [d5]; exact (c_num_l (by rw [← d5]; exact hc5)).2.1)
              refine J_topi w5 ?_
              refine J_istore hC [(5, .int (tW f q.2 t5.2.1)), (4, .int (tW f q.2 t4.2.1)), (3, .int (tW f q.2 t3.2.1)), (2, .int (s_num (t2.1 0) (c_nm f q.2 t2) (vcO t2.1))), (1, .int (c_nm f q.2 t1)), (0, .ref p)] dX5_readFair_125 (by decide) rfl ?_
              refine J_aload_n hC dX5_readFair_127 5 rfl rfl ?_
              refine J_callVi hC dX5_readFair_128 wl_X5_82 yi_X5_readSemicolon (c_X5_readSemicolon _ G p s b a f q t5 v5 hf hq ht5 hc5 hv5 hI5) rfl rfl 0 5 rfl rfl ⟨Nat.le_of_ble_eq_true rfl, Nat.le_of_ble_eq_true rfl⟩ (Nat.le_of_ble_eq_true rfl) (Nat.le_of_ble_eq_true rfl) (Nat.le_of_ble_eq_true rfl) (fun r v6 h_128 => ?_)
              obtain ⟨t6, d6⟩ : ∃ z9, z9 = c_sem f q.2 t5 := ⟨_, rfl⟩
              rw [← d6] at h_128
              obtain ⟨h_128, hv6⟩ := h_128
              have ht6 : t6.2.1 ≤ q.2 := by rw [d6]; exact PEc_sem ht5
              have hI6 : CI t6.1 := by rw [d6, c_sem_g]; exact hI5
              have hb6 := tok_b f ht6 hq
              have s6 : t6 = c_f7 f q.2 t := by rw [d6, c_f7, ← s5]; try rfl
              refine J_wq (congrArg (fun z9 => prW G p s b a f q z9 v6) d6.symm) ?_
              rcases h_128 with ⟨rfl, hc6⟩ | ⟨rfl, hz6⟩
              · refine J_if_ne (tgt := 136) hC dX5_readFair_131 (by decide) (fun _ => ?_) (fun c => absurd c (by decide))
                have hlt : fcO t6.1 < 6 := lt_of_nI (n := 6) hI6.2.2.1.1 (by have := hI6.2.2.1.2; omega) (by omega) (by rw [s6, c_f7_g]; exact c_12)
                refine J_aload_n hC dX5_readFair_136 5 rfl rfl ?_
                refine J_get (v := .ref (a 0)) hC wu_X5 rfl dX5_readFair_137 0 1 (by decide) wf_X5_27 rfl rfl ?_
                refine J_get (v := .ref (a 5)) hC wu_X8 rfl dX5_readFair_140 4 1 (by decide) wf_X5_129 rfl rfl ?_
                refine J_iload_n hC dX5_readFair_143 4 rfl rfl ?_
                refine J_iload_n hC dX5_readFair_144 3 rfl rfl ?_
                refine J_iload_n hC dX5_readFair_145 2 rfl rfl ?_
                refine J_iload hC dX5_readFair_146 1 rfl ?_
                refine J_iload hC dX5_readFair_148 0 rfl ?_
                refine J_callVv hC dX5_readFair_150 wl_X5_143 yi_X2_add (cons_v (appr_v (scW G s b f q t6.2.1 v6) (c_X2_add _ G a t6.1 (fcO t6.1) (c_nm f q.2 t1) (s_num (t2.1 0) (c_nm f q.2 t2) (vcO t2.1)) (tW f q.2 t3.2.1) (tW f q.2 t4.2.1) (tW f q.2 t5.2.1) hI6.2.2.1.1 (by omega)))) rfl rfl 9 2 rfl rfl ⟨Nat.le_of_ble_eq_true rfl, Nat.le_of_ble_eq_true rfl⟩ (Nat.le_of_ble_eq_true rfl) (Nat.le_of_ble_eq_true rfl) (Nat.le_of_ble_eq_true rfl) (fun _ _ => ?_)
                refine J_wq (show _ = prW G p s b a f q (s_fadd t6.1 (c_nm f q.2 t1) (s_num (t2.1 0) (c_nm f q.2 t2) (vcO t2.1)) (tW f q.2 t3.2.1) (tW f q.2 t4.2.1) (tW f q.2 t5.2.1) (fcO t6.1), t6.2) v6 from rfl) ?_
                refine J_iconst (v := 1) hC dX5_readFair_153 rfl ?_
                refine J_iret hC hR dX5_readFair_154 rfl v6 ?_ ?_ (by decide) (by decide)
                · have eS : c_rf f q.2 t = (s_fadd t6.1 (c_nm f q.2 t1) (s_num (t2.1 0) (c_nm f q.2 t2) (vcO t2.1)) (tW f q.2 t3.2.1) (tW f q.2 t4.2.1) (tW f q.2 t5.2.1) (fcO t6.1), t6.2) := by rw [c_rf, ← s6, if_pos hc6, ← s1, ← s2, ← s3, ← s4, ← s5, c_kvV]
                  rw [eS]
                  dsimp only
                  exact ⟨Or.inl ⟨rfl, hc6⟩, hv6⟩
                · have eS : c_rf f q.2 t = (s_fadd t6.1 (c_nm f q.2 t1) (s_num (t2.1 0) (c_nm f q.2 t2) (vcO t2.1)) (tW f q.2 t3.2.1) (tW f q.2 t4.2.1) (tW f q.2 t5.2.1) (fcO t6.1), t6.2) := by rw [c_rf, ← s6, if_pos hc6, ← s1, ← s2, ← s3, ← s4, ← s5, c_kvV]
                  rw [eS]
              · refine J_if_ne (tgt := 136) hC dX5_readFair_131 (by decide) (fun c => absurd (by decide) c) (fun _ => ?_)
                refine J_iconst (v := 0) hC dX5_readFair_134 rfl ?_
                refine J_iret hC hR dX5_readFair_135 rfl v6 ?_ ?_ (by decide) (by decide)
                · have eS : c_rf f q.2 t = t6 := by rw [c_rf, ← s6, if_neg hz6]
                  rw [eS]
                  exact ⟨Or.inr ⟨rfl, hz6⟩, hv6⟩
                · have eS : c_rf f q.2 t = t6 := by rw [c_rf, ← s6, if_neg hz6]
                  rw [eS]
            · refine J_if_ne (tgt := 118) hC dX5_readFair_113 (by decide) (fun c => absurd (by decide) c) (fun _ => ?_)
              refine J_iconst (v := 0) hC dX5_readFair_116 rfl ?_
              refine J_iret hC hR dX5_readFair_117 rfl v5 ?_ ?_ (by decide) (by decide)
              · have eS : c_rf f q.2 t = t5 := by rw [c_rf, c_f7, ← s5, c_sem_z hz5, if_neg hz5]
                rw [eS]
                exact ⟨Or.inr ⟨rfl, hz5⟩, hv5⟩
              · have eS : c_rf f q.2 t = t5 := by rw [c_rf, c_f7, ← s5, c_sem_z hz5, if_neg hz5]
                rw [eS]
          · refine J_if_ne (tgt := 97) hC dX5_readFair_92 (by decide) (fun c => absurd (by decide) c) (fun _ => ?_)
            refine J_iconst (v := 0) hC dX5_readFair_95 rfl ?_
            refine J_iret hC hR dX5_readFair_96 rfl v4 ?_ ?_ (by decide) (by decide)
            · have eS : c_rf f q.2 t = t4 := by rw [c_rf, c_f7, c_f6, ← s4, c_num_z hz4, c_sem_z hz4, if_neg hz4]
              rw [eS]
              exact ⟨Or.inr ⟨rfl, hz4⟩, hv4⟩
            · have eS : c_rf f q.2 t = t4 := by rw [c_rf, c_f7, c_f6, ← s4, c_num_z hz4, c_sem_z hz4, if_neg hz4]
              rw [eS]
        · refine J_if_ne (tgt := 77) hC dX5_readFair_72 (by decide) (fun c => absurd (by decide) c) (fun _ => ?_)
          refine J_iconst (v := 0) hC dX5_readFair_75 rfl ?_
          refine J_iret hC hR dX5_readFair_76 rfl v3 ?_ ?_ (by decide) (by decide)
          · have eS : c_rf f q.2 t = t3 := by rw [c_rf, c_f7, c_f6, c_f5, ← s3, c_num_z hz3, c_num_z hz3, c_sem_z hz3, if_neg hz3]
            rw [eS]
            exact ⟨Or.inr ⟨rfl, hz3⟩, hv3⟩
          · have eS : c_rf f q.2 t = t3 := by rw [c_rf, c_f7, c_f6, c_f5, ← s3, c_num_z hz3, c_num_z hz3, c_sem_z hz3, if_neg hz3]
            rw [eS]
      · refine J_if_ne (tgt := 47) hC dX5_readFair_42 (by decide) (fun c => absurd (by decide) c) (fun _ => ?_)
        refine J_iconst (v := 0) hC dX5_readFair_45 rfl ?_
        refine J_iret hC hR dX5_readFair_46 rfl v2 ?_ ?_ (by decide) (by decide)
        · have eS : c_rf f q.2 t = t2 := by rw [c_rf, c_f7, c_f6, c_f5, c_f4, ← s2, c_num_z hz2, c_num_z hz2, c_num_z hz2, c_sem_z hz2, if_neg hz2]
          rw [eS]
          exact ⟨Or.inr ⟨rfl, hz2⟩, hv2⟩
        · have eS : c_rf f q.2 t = t2 := by rw [c_rf, c_f7, c_f6, c_f5, c_f4, ← s2, c_num_z hz2, c_num_z hz2, c_num_z hz2, c_sem_z hz2, if_neg hz2]
          rw [eS]
    · refine J_if_ne (tgt := 30) hC dX5_readFair_25 (by decide) (fun c => absurd (by decide) c) (fun _ => ?_)
      refine J_iconst (v := 0) hC dX5_readFair_28 rfl ?_
      refine J_iret hC hR dX5_readFair_29 rfl v1 ?_ ?_ (by decide) (by decide)
      · have eS : c_rf f q.2 t = t1 := by rw [c_rf, c_f7, c_f6, c_f5, c_f4, c_f3, ← s1, c_kv_z hz1, c_num_z hz1, c_num_z hz1, c_num_z hz1, c_sem_z hz1, if_neg hz1]
        rw [eS]
        exact ⟨Or.inr ⟨rfl, hz1⟩, hv1⟩
      · have eS : c_rf f q.2 t = t1 := by rw [c_rf, c_f7, c_f6, c_f5, c_f4, c_f3, ← s1, c_kv_z hz1, c_num_z hz1, c_num_z hz1, c_num_z hz1, c_sem_z hz1, if_neg hz1]
        rw [eS]
  · refine J_aload_n hC dX5_readFair_15 0 rfl rfl ?_
    refine J_iconst (v := 5) hC dX5_readFair_16 rfl ?_
    refine J_callVi hC dX5_readFair_17 wl_X5_52 yi_X5_fail (c_X5_fail _ G p s b a f q t v 5) rfl rfl 0 5 rfl rfl ⟨Nat.le_of_ble_eq_true rfl, Nat.le_of_ble_eq_true rfl⟩ (Nat.le_of_ble_eq_true rfl) (Nat.le_of_ble_eq_true rfl) (Nat.le_of_ble_eq_true rfl) (fun r u h_17 => ?_)
    subst h_17
    obtain ⟨t1, d1⟩ : ∃ z9, z9 = (t.1, t.2.1, (5 : Int32), nI (tS f q.2 t.2.1)) := ⟨_, rfl⟩
    have hz1 : ¬ t1.2.2.1 = 0 := by rw [d1]; show ¬ (5 : Int32) = 0; decide
    have hv1 : NU f q.2 t1.2.1 v := by rw [d1]; exact hv
    refine J_wq (congrArg (fun z9 => prW G p s b a f q z9 v) d1.symm) ?_
    refine J_iret hC hR dX5_readFair_20 rfl v ?_ ?_ (by decide) (by decide)
    · have eS : c_rf f q.2 t = t1 := by rw [c_rf, c_f7, c_f6, c_f5, c_f4, c_f3, c_f2, show c_f1 f q.2 t = t1 from by rw [c_f1, p_chk_f hc c_12, d1], c_nn_z hz1, c_kv_z hz1, c_num_z hz1, c_num_z hz1, c_num_z hz1, c_sem_z hz1, if_neg hz1]
      rw [eS]
      exact ⟨Or.inr ⟨rfl, hz1⟩, hv1⟩
    · have eS : c_rf f q.2 t = t1 := by rw [c_rf, c_f7, c_f6, c_f5, c_f4, c_f3, c_f2, show c_f1 f q.2 t = t1 from by rw [c_f1, p_chk_f hc c_12, d1], c_nn_z hz1, c_kv_z hz1, c_num_z hz1, c_num_z hz1, c_num_z hz1, c_sem_z hz1, if_neg hz1]
      rw [eS]

set_option maxRecDepth 100000 in
set_option maxHeartbeats 4000000 in
theorem c_X5_weatherOfToken (l : Launch) (G : gT) (p s : Nat) (b a : Nat → Nat) (f : RT) (q : RT × Nat) (t : PS CT) (v : Int32) (hf : ∀ j, j < q.2 → q.1 j &&& 255 = f j) (hq : q.2 ≤ 600) (ht : t.2.1 ≤ q.2) : MI l yX5_weatherOfToken cX5_weatherOfToken 1 (some .int) { frames := 5, cells := 0, slots := 0, locals := 107 } [.ref (p)] G (prW G p s b a f q t v) (fun r (_ : Unit) => r = c_whV f q.2 t) (fun _ => prW G p s b a f q t v) := by
  refine jm_i (own := RX5) (by decide) rfl (Nat.le_of_ble_eq_true rfl) (fun x hl hC hR hN => ?_)
  subst hl
  have hb0 := tok_b f ht hq
  refine J_aload_n hC dX5_weatherOfToken_0 0 rfl rfl ?_
  refine J_get (v := .ref s) hC wu_X5 rfl dX5_weatherOfToken_1 0 0 (by decide) wf_X5_23 rfl rfl ?_
  refine J_ldcS (i := 5) hC (by decide) rfl rfl dX5_weatherOfToken_4 ?_
  refine J_callVi hC dX5_weatherOfToken_6 wl_X5_48 yi_X6_isWord (cons_i (app_i (stW G a t.1) (c_X6_isWord _ G s b f q t.2.1 v 5 hf hq ht (by decide)))) rfl rfl 1 6 rfl rfl ⟨Nat.le_of_ble_eq_true rfl, Nat.le_of_ble_eq_true rfl⟩ (Nat.le_of_ble_eq_true rfl) (Nat.le_of_ble_eq_true rfl) (Nat.le_of_ble_eq_true rfl) (fun r u h_6 => ?_)
  refine J_wq (show _ = prW G p s b a f q t v from rfl) ?_
  rcases h_6 with ⟨rfl, c_6⟩ | ⟨rfl, c_6⟩
  · refine J_if_eq (tgt := 14) hC dX5_weatherOfToken_9 (by decide) (fun c => absurd c (by decide)) (fun _ => ?_)
    refine J_iconst (v := 0) hC dX5_weatherOfToken_12 rfl ?_
    refine J_iret hC hR dX5_weatherOfToken_13 rfl () ?_ ?_ (by decide) (by decide)
    · rw [c_whV, if_pos c_6]
    · rfl
  · refine J_if_eq (tgt := 14) hC dX5_weatherOfToken_9 (by decide) (fun _ => ?_) (fun c => absurd (by decide) c)
    refine J_aload_n hC dX5_weatherOfToken_14 0 rfl rfl ?_
    refine J_get (v := .ref s) hC wu_X5 rfl dX5_weatherOfToken_15 0 0 (by decide) wf_X5_23 rfl rfl ?_
    refine J_ldcS (i := 6) hC (by decide) rfl rfl dX5_weatherOfToken_18 ?_
    refine J_callVi hC dX5_weatherOfToken_20 wl_X5_48 yi_X6_isWord (cons_i (app_i (stW G a t.1) (c_X6_isWord _ G s b f q t.2.1 v 6 hf hq ht (by decide)))) rfl rfl 1 6 rfl rfl ⟨Nat.le_of_ble_eq_true rfl, Nat.le_of_ble_eq_true rfl⟩ (Nat.le_of_ble_eq_true rfl) (Nat.le_of_ble_eq_true rfl) (Nat.le_of_ble_eq_true rfl) (fun r u h_20 => ?_)
    refine J_wq (show _ = prW G p s b a f q t v from rfl) ?_
    rcases h_20 with ⟨rfl, c_20⟩ | ⟨rfl, c_20⟩
    · refine J_if_eq (tgt := 28) hC dX5_weatherOfToken_23 (by decide) (fun c => absurd c (by decide)) (fun _ => ?_)
      refine J_iconst (v := 1) hC dX5_weatherOfToken_26 rfl ?_
      refine J_iret hC hR dX5_weatherOfToken_27 rfl () ?_ ?_ (by decide) (by decide)
      · rw [c_whV, if_neg c_6, if_pos c_20]
      · rfl
    · refine J_if_eq (tgt := 28) hC dX5_weatherOfToken_23 (by decide) (fun _ => ?_) (fun c => absurd (by decide) c)
      refine J_aload_n hC dX5_weatherOfToken_28 0 rfl rfl ?_
      refine J_get (v := .ref s) hC wu_X5 rfl dX5_weatherOfToken_29 0 0 (by decide) wf_X5_23 rfl rfl ?_
      refine J_ldcS (i := 7) hC (by decide) rfl rfl dX5_weatherOfToken_32 ?_
      refine J_callVi hC dX5_weatherOfToken_34 wl_X5_48 yi_X6_isWord (cons_i (app_i (stW G a t.1) (c_X6_isWord _ G s b f q t.2.1 v 7 hf hq ht (by decide)))) rfl rfl 1 6 rfl rfl ⟨Nat.le_of_ble_eq_true rfl, Nat.le_of_ble_eq_true rfl⟩ (Nat.le_of_ble_eq_true rfl) (Nat.le_of_ble_eq_true rfl) (Nat.le_of_ble_eq_true rfl) (fun r u h_34 => ?_)
      refine J_wq (show _ = prW G p s b a f q t v from rfl) ?_
      rcases h_34 with ⟨rfl, c_34⟩ | ⟨rfl, c_34⟩
      · refine J_if_eq (tgt := 44) hC dX5_weatherOfToken_37 (by decide) (fun c => absurd c (by decide)) (fun _ => ?_)
        refine J_iconst (v := 2) hC dX5_weatherOfToken_40 rfl ?_
        refine J_goto (tgt := 45) hC dX5_weatherOfToken_41 (by decide) ?_
        refine J_iret hC hR dX5_weatherOfToken_45 rfl () ?_ ?_ (by decide) (by decide)
        · rw [c_whV, if_neg c_6, if_neg c_20, if_pos c_34]
        · rfl
      · refine J_if_eq (tgt := 44) hC dX5_weatherOfToken_37 (by decide) (fun _ => ?_) (fun c => absurd (by decide) c)
        refine J_iconst (v := (-1)) hC dX5_weatherOfToken_44 rfl ?_
        refine J_iret hC hR dX5_weatherOfToken_45 rfl () ?_ ?_ (by decide) (by decide)
        · rw [c_whV, if_neg c_6, if_neg c_20, if_neg c_34]
        · rfl

set_option maxRecDepth 100000 in
set_option maxHeartbeats 4000000 in
theorem c_X5_readSay (l : Launch) (G : gT) (p s : Nat) (b a : Nat → Nat) (f : RT) (q : RT × Nat) (t : PS CT) (v : Int32) (hf : ∀ j, j < q.2 → q.1 j &&& 255 = f j) (hq : q.2 ≤ 600) (ht : t.2.1 ≤ q.2) (hc : t.2.2.1 = 0) (hv : NU f q.2 t.2.1 v) (hI : CI t.1) : MI l yX5_readSay cX5_readSay 4 (some .boolean) { frames := 6, cells := 0, slots := 0, locals := 127 } [.ref (p)] G (prW G p s b a f q t v) (fun r (u : Int32) => ((r = 1 ∧ (c_rs f q.2 t).2.2.1 = 0) ∨ (r = 0 ∧ ¬ (c_rs f q.2 t).2.2.1 = 0)) ∧ NU f q.2 (c_rs f q.2 t).2.1 u) (fun u => prW G p s b a f q (c_rs f q.2 t) u) := by
  refine jm_i (own := RX5) (by decide) rfl (Nat.le_of_ble_eq_true rfl) (fun x hl hC hR hN => ?_)
  subst hl
  have hb0 := tok_b f ht hq
  refine J_aload_n hC dX5_readSay_0 0 rfl rfl ?_
  refine J_callVi hC dX5_readSay_1 wl_X5_136 yi_X5_readKnownVillage (c_X5_readKnownVillage _ G p s b a f q t v hf hq ht hc hv hI) rfl rfl 0 5 rfl rfl ⟨Nat.le_of_ble_eq_true rfl, Nat.le_of_ble_eq_true rfl⟩ (Nat.le_of_ble_eq_true rfl) (Nat.le_of_ble_eq_true rfl) (Nat.le_of_ble_eq_true rfl) (fun r v1 h_1 => ?_)
  obtain ⟨t1, d1⟩ : ∃ z9, z9 = c_kv f q.2 t := ⟨_, rfl⟩
  rw [← d1] at h_1
  obtain ⟨h_1, hv1⟩ := h_1
  have ht1 : t1.2.1 ≤ q.2 := by rw [d1]; exact PEc_kv ht
  have hI1 : CI t1.1 := by rw [d1, c_kv_g]; exact hI
  have hb1 := tok_b f ht1 hq
  have s1 : t1 = c_s1 f q.2 t := by rw [d1, c_s1]; try rfl
  refine J_wq (congrArg (fun z9 => prW G p s b a f q z9 v1) d1.symm) ?_
  rcases h_1 with ⟨rfl, hc1⟩ | ⟨rfl, hz1⟩
  · refine J_if_ne (tgt := 9) hC dX5_readSay_4 (by decide) (fun _ => ?_) (fun c => absurd c (by decide))
    refine J_aload_n hC dX5_readSay_9 0 rfl rfl ?_
    refine J_get (v := .ref (a 0)) hC wu_X5 rfl dX5_readSay_10 0 1 (by decide) wf_X5_27 rfl rfl ?_
    refine J_get (v := .ref (a 1)) hC wu_X8 rfl dX5_readSay_13 4 0 (by decide) wf_X5_110 rfl rfl ?_
    refine J_aload_n hC dX5_readSay_16 0 rfl rfl ?_
    refine J_get (v := .ref s) hC wu_X5 rfl dX5_readSay_17 0 0 (by decide) wf_X5_23 rfl rfl ?_
    refine J_callVi hC dX5_readSay_20 wl_X5_122 yi_X6_name (cons_i (app_i (stW G a t1.1) (c_X6_name _ G s b f q t1.2.1 v1 hf hq ht1))) rfl rfl 1 6 rfl rfl ⟨Nat.le_of_ble_eq_true rfl, Nat.le_of_ble_eq_true rfl⟩ (Nat.le_of_ble_eq_true rfl) (Nat.le_of_ble_eq_true rfl) (Nat.le_of_ble_eq_true rfl) (fun r u h_20 => ?_)
    subst h_20
    refine J_wq (show _ = prW G p s b a f q t1 v1 from rfl) ?_
    refine J_topi (show _ = c_nm f q.2 t1 from rfl) ?_
    refine J_callVi hC dX5_readSay_23 wl_X5_139 yi_X9_numberOf (cons_i (appr_i (scW G s b f q t1.2.1 v1) (c_X9_numberOf _ G a t1.1 (vcO t1.1) (c_nm f q.2 t1) hI1.2.1.1 (by have := hI1.2.1.2; omega)))) rfl rfl 5 9 rfl rfl ⟨Nat.le_of_ble_eq_true rfl, Nat.le_of_ble_eq_true rfl⟩ (Nat.le_of_ble_eq_true rfl) (Nat.le_of_ble_eq_true rfl) (Nat.le_of_ble_eq_true rfl) (fun r u h_23 => ?_)
    refine J_wq (show _ = prW G p s b a f q t1 v1 from rfl) ?_
    subst h_23
    refine J_istore_n hC [(1, .int (s_num (t1.1 0) (c_nm f q.2 t1) (vcO t1.1))), (0, .ref p)] dX5_readSay_26 rfl (by decide) rfl ?_
    refine J_aload_n hC dX5_readSay_27 1 rfl rfl ?_
    refine J_iconst (v := 0) hC dX5_readSay_28 rfl ?_
    refine J_sipush (v := 9999) hC dX5_readSay_29 (by decide +kernel) ?_
    refine J_callVi hC dX5_readSay_32 wl_X5_56 yi_X5_readNumber (c_X5_readNumber _ G p s b a f q t1 v1 0 9999 hf hq ht1 hc1 hv1 hI1) rfl rfl 0 5 rfl rfl ⟨Nat.le_of_ble_eq_true rfl, Nat.le_of_ble_eq_true rfl⟩ (Nat.le_of_ble_eq_true rfl) (Nat.le_of_ble_eq_true rfl) (Nat.le_of_ble_eq_true rfl) (fun r v2 h_32 => ?_)
    obtain ⟨t2, d2⟩ : ∃ z9, z9 = c_num f q.2 t1 0 9999 := ⟨_, rfl⟩
    rw [← d2] at h_32
    obtain ⟨h_32, hv2⟩ := h_32
    have ht2 : t2.2.1 ≤ q.2 := by rw [d2]; exact PEc_num ht1
    have hI2 : CI t2.1 := by rw [d2, c_num_g]; exact hI1
    have hb2 := tok_b f ht2 hq
    have s2 : t2 = c_s2 f q.2 t := by rw [d2, c_s2, ← s1]; try rfl
    refine J_wq (congrArg (fun z9 => prW G p s b a f q z9 v2) d2.symm) ?_
    rcases h_32 with ⟨rfl, hc2⟩ | ⟨rfl, hz2⟩
    · refine J_if_ne (tgt := 40) hC dX5_readSay_35 (by decide) (fun _ => ?_) (fun c => absurd c (by decide))
      refine J_aload_n hC dX5_readSay_40 1 rfl rfl ?_
      refine J_get (v := .ref s) hC wu_X5 rfl dX5_readSay_41 0 0 (by decide) wf_X5_23 rfl rfl ?_
      refine J_get (v := .int v2) hC wu_X6 rfl dX5_readSay_44 1 4 (by decide) wf_X5_66 rfl rfl ?_
      have w2 : v2 = tW f q.2 t2.2.1 := hv2 (by rw [d2]; exact (c_num_l (by rw [← d2]; exact hc2)).2.1)
      refine J_topi w2 ?_
      refine J_istore_n hC [(2, .int (tW f q.2 t2.2.1)), (1, .int (s_num (t1.1 0) (c_nm f q.2 t1) (vcO t1.1))), (0, .ref p)] dX5_readSay_47 rfl (by decide) rfl ?_
      refine J_aload_n hC dX5_readSay_48 2 rfl rfl ?_
      refine J_get (v := .ref s) hC wu_X5 rfl dX5_readSay_49 0 0 (by decide) wf_X5_23 rfl rfl ?_
      refine J_callVv hC dX5_readSay_52 wl_X5_35 yi_X6_next (cons_v (app_v (stW G a t2.1) (c_X6_next _ G s b f q (kC (tK f q.2 t2.2.1)) (nI (tS f q.2 t2.2.1)) (tE f q.2 t2.2.1) v2 hf hq (tE_le f q.2 _ ht2).2))) rfl rfl 1 6 rfl rfl ⟨Nat.le_of_ble_eq_true rfl, Nat.le_of_ble_eq_true rfl⟩ (Nat.le_of_ble_eq_true rfl) (Nat.le_of_ble_eq_true rfl) (Nat.le_of_ble_eq_true rfl) (fun v3 hv3 => ?_)
      obtain ⟨t3, d3⟩ : ∃ z9, z9 = p_nxt f q.2 t2 := ⟨_, rfl⟩
      have dd3 := d3.trans (p_nxt_pos hc2)
      have hc3 : t3.2.2.1 = 0 := by rw [dd3]; exact hc2
      have ht3 : t3.2.1 ≤ q.2 := by rw [d3]; exact PE_nxt ht2
      have hI3 : CI t3.1 := by rw [dd3]; exact hI2
      have hb3 := tok_b f ht3 hq
      rw [show tE f q.2 t2.2.1 = t3.2.1 from by rw [dd3]] at hv3
      have s3 : t3 = c_s3 f q.2 t := by rw [d3, c_s3, ← s2]; try rfl
      refine J_wq (show _ = prW G p s b a f q t3 v3 from by rw [dd3]; rfl) ?_
      refine J_aload_n hC dX5_readSay_55 2 rfl rfl ?_
      refine J_callVi hC dX5_readSay_56 wl_X5_146 yi_X5_weatherOfToken (c_X5_weatherOfToken _ G p s b a f q t3 v3 hf hq ht3) rfl rfl 0 5 rfl rfl ⟨Nat.le_of_ble_eq_true rfl, Nat.le_of_ble_eq_true rfl⟩ (Nat.le_of_ble_eq_true rfl) (Nat.le_of_ble_eq_true rfl) (Nat.le_of_ble_eq_true rfl) (fun r u h_56 => ?_)
      subst h_56
      refine J_istore_n hC [(3, .int (c_whV f q.2 t3)), (2, .int (tW f q.2 t2.2.1)), (1, .int (s_num (t1.1 0) (c_nm f q.2 t1) (vcO t1.1))), (0, .ref p)] dX5_readSay_59 rfl (by decide) rfl ?_
      refine J_iload_n hC dX5_readSay_60 0 rfl rfl ?_
      refine J_iconst (v := (-1)) hC dX5_readSay_61 rfl ?_
      refine J_ic_ne (tgt := 71) hC dX5_readSay_62 (by decide) (fun (c_62 : ¬ (c_whV f q.2 t3) = (-1)) => ?_) (fun (c_62 : (c_whV f q.2 t3) = (-1)) => ?_)
      · refine J_aload_n hC dX5_readSay_71 3 rfl rfl ?_
        refine J_callVi hC dX5_readSay_72 wl_X5_82 yi_X5_readSemicolon (c_X5_readSemicolon _ G p s b a f q t3 v3 hf hq ht3 hc3 hv3 hI3) rfl rfl 0 5 rfl rfl ⟨Nat.le_of_ble_eq_true rfl, Nat.le_of_ble_eq_true rfl⟩ (Nat.le_of_ble_eq_true rfl) (Nat.le_of_ble_eq_true rfl) (Nat.le_of_ble_eq_true rfl) (fun r v4 h_72 => ?_)
        obtain ⟨t4, d4⟩ : ∃ z9, z9 = c_sem f q.2 t3 := ⟨_, rfl⟩
        rw [← d4] at h_72
        obtain ⟨h_72, hv4⟩ := h_72
        have ht4 : t4.2.1 ≤ q.2 := by rw [d4]; exact PEc_sem ht3
        have hI4 : CI t4.1 := by rw [d4, c_sem_g]; exact hI3
        have hb4 := tok_b f ht4 hq
        have s4 : t4 = c_s5 f q.2 t := by rw [d4, c_s5, c_s4, ← s3, p_chk_t c_62]; try rfl
        refine J_wq (congrArg (fun z9 => prW G p s b a f q z9 v4) d4.symm) ?_
        rcases h_72 with ⟨rfl, hc4⟩ | ⟨rfl, hz4⟩
        · refine J_if_ne (tgt := 80) hC dX5_readSay_75 (by decide) (fun _ => ?_) (fun c => absurd c (by decide))
          refine J_aload_n hC dX5_readSay_80 3 rfl rfl ?_
          refine J_get (v := .ref (a 0)) hC wu_X5 rfl dX5_readSay_81 0 1 (by decide) wf_X5_27 rfl rfl ?_
          refine J_iload_n hC dX5_readSay_84 2 rfl rfl ?_
          refine J_iload_n hC dX5_readSay_85 1 rfl rfl ?_
          refine J_callVi hC dX5_readSay_86 wl_X5_149 yi_X8_refusalToPrint (cons_i (appr_i (scW G s b f q t4.2.1 v4) (c_X8_refusalToPrint _ G a t4.1 (bcO t4.1) (s_num (t1.1 0) (c_nm f q.2 t1) (vcO t1.1)) (tW f q.2 t2.2.1) hI4.1.1 (by have := hI4.1.2; omega)))) rfl rfl 4 8 rfl rfl ⟨Nat.le_of_ble_eq_true rfl, Nat.le_of_ble_eq_true rfl⟩ (Nat.le_of_ble_eq_true rfl) (Nat.le_of_ble_eq_true rfl) (Nat.le_of_ble_eq_true rfl) (fun r u h_86 => ?_)
          refine J_wq (show _ = prW G p s b a f q t4 v4 from rfl) ?_
          subst h_86
          refine J_if_eq (tgt := 99) hC dX5_readSay_89 (by decide) (fun (c_89 : (s_refusal t4.1 (s_num (t1.1 0) (c_nm f q.2 t1) (vcO t1.1)) (tW f q.2 t2.2.1) (bcO t4.1)) = 0) => ?_) (fun (c_89 : ¬ (s_refusal t4.1 (s_num (t1.1 0) (c_nm f q.2 t1) (vcO t1.1)) (tW f q.2 t2.2.1) (bcO t4.1)) = 0) => ?_)
          · have h30 := s_ref0 c_89
            refine J_aload_n hC dX5_readSay_99 3 rfl rfl ?_
            refine J_get (v := .ref (a 0)) hC wu_X5 rfl dX5_readSay_100 0 1 (by decide) wf_X5_27 rfl rfl ?_
            refine J_get (v := .ref (a 14)) hC wu_X8 rfl dX5_readSay_103 4 3 (by decide) wf_X5_153 rfl rfl ?_
            refine J_iload_n hC dX5_readSay_106 2 rfl rfl ?_
            refine J_iload_n hC dX5_readSay_107 1 rfl rfl ?_
            refine J_iload_n hC dX5_readSay_108 0 rfl rfl ?_
            refine J_callVv hC dX5_readSay_109 wl_X5_157 yi_X0_add (cons_v (appr_v (scW G s b f q t4.2.1 v4) (c_X0_add _ G a t4.1 (bcO t4.1) (s_num (t1.1 0) (c_nm f q.2 t1) (vcO t1.1)) (tW f q.2 t2.2.1) (c_whV f q.2 t3) hI4.1.1 (by omega)))) rfl rfl 18 0 rfl rfl ⟨Nat.le_of_ble_eq_true rfl, Nat.le_of_ble_eq_true rfl⟩ (Nat.le_of_ble_eq_true rfl) (Nat.le_of_ble_eq_true rfl) (Nat.le_of_ble_eq_true rfl) (fun _ _ => ?_)
            refine J_wq (show _ = prW G p s b a f q (s_bookAdd t4.1 (s_num (t1.1 0) (c_nm f q.2 t1) (vcO t1.1)) (tW f q.2 t2.2.1) (c_whV f q.2 t3) (bcO t4.1), t4.2) v4 from rfl) ?_
            refine J_iconst (v := 1) hC dX5_readSay_112 rfl ?_
            refine J_iret hC hR dX5_readSay_113 rfl v4 ?_ ?_ (by decide) (by decide)
            · have eS : c_rs f q.2 t = (s_bookAdd t4.1 (s_num (t1.1 0) (c_nm f q.2 t1) (vcO t1.1)) (tW f q.2 t2.2.1) (c_whV f q.2 t3) (bcO t4.1), t4.2) := by rw [c_rs, show c_s6 f q.2 t = t4 from by rw [c_s6, ← s4, ← s1, ← s2, c_kvV, p_chk_t c_89], if_pos hc4, ← s1, ← s2, ← s3, c_kvV]
              rw [eS]
              dsimp only
              exact ⟨Or.inl ⟨rfl, hc4⟩, hv4⟩
            · have eS : c_rs f q.2 t = (s_bookAdd t4.1 (s_num (t1.1 0) (c_nm f q.2 t1) (vcO t1.1)) (tW f q.2 t2.2.1) (c_whV f q.2 t3) (bcO t4.1), t4.2) := by rw [c_rs, show c_s6 f q.2 t = t4 from by rw [c_s6, ← s4, ← s1, ← s2, c_kvV, p_chk_t c_89], if_pos hc4, ← s1, ← s2, ← s3, c_kvV]
              rw [eS]
          · refine J_aload_n hC dX5_readSay_92 3 rfl rfl ?_
            refine J_bipush (v := 6) hC dX5_readSay_93 (by decide +kernel) ?_
            refine J_callVi hC dX5_readSay_95 wl_X5_52 yi_X5_fail (c_X5_fail _ G p s b a f q t4 v4 6) rfl rfl 0 5 rfl rfl ⟨Nat.le_of_ble_eq_true rfl, Nat.le_of_ble_eq_true rfl⟩ (Nat.le_of_ble_eq_true rfl) (Nat.le_of_ble_eq_true rfl) (Nat.le_of_ble_eq_true rfl) (fun r u h_95 => ?_)
            subst h_95
            obtain ⟨t5, d5⟩ : ∃ z9, z9 = (t4.1, t4.2.1, (6 : Int32), nI (tS f q.2 t4.2.1)) := ⟨_, rfl⟩
            have hz5 : ¬ t5.2.2.1 = 0 := by rw [d5]; show ¬ (6 : Int32) = 0; decide
            have hv5 : NU f q.2 t5.2.1 v4 := by rw [d5]; exact hv4
            refine J_wq (congrArg (fun z9 => prW G p s b a f q z9 v4) d5.symm) ?_
            refine J_iret hC hR dX5_readSay_98 rfl v4 ?_ ?_ (by decide) (by decide)
            · have eS : c_rs f q.2 t = t5 := by rw [c_rs, show c_s6 f q.2 t = t5 from by rw [c_s6, ← s4, ← s1, ← s2, c_kvV, p_chk_f hc4 c_89, d5], if_neg hz5]
              rw [eS]
              exact ⟨Or.inr ⟨rfl, hz5⟩, hv5⟩
            · have eS : c_rs f q.2 t = t5 := by rw [c_rs, show c_s6 f q.2 t = t5 from by rw [c_s6, ← s4, ← s1, ← s2, c_kvV, p_chk_f hc4 c_89, d5], if_neg hz5]
              rw [eS]
        · refine J_if_ne (tgt := 80) hC dX5_readSay_75 (by decide) (fun c => absurd (by decide) c) (fun _ => ?_)
          refine J_iconst (v := 0) hC dX5_readSay_78 rfl ?_
          refine J_iret hC hR dX5_readSay_79 rfl v4 ?_ ?_ (by decide) (by decide)
          · have eS : c_rs f q.2 t = t4 := by rw [c_rs, c_s6, ← s4, p_chk_z hz4, if_neg hz4]
            rw [eS]
            exact ⟨Or.inr ⟨rfl, hz4⟩, hv4⟩
          · have eS : c_rs f q.2 t = t4 := by rw [c_rs, c_s6, ← s4, p_chk_z hz4, if_neg hz4]
            rw [eS]
      · refine J_aload_n hC dX5_readSay_65 3 rfl rfl ?_
        refine J_iconst (v := 1) hC dX5_readSay_66 rfl ?_
        refine J_callVi hC dX5_readSay_67 wl_X5_52 yi_X5_fail (c_X5_fail _ G p s b a f q t3 v3 1) rfl rfl 0 5 rfl rfl ⟨Nat.le_of_ble_eq_true rfl, Nat.le_of_ble_eq_true rfl⟩ (Nat.le_of_ble_eq_true rfl) (Nat.le_of_ble_eq_true rfl) (Nat.le_of_ble_eq_true rfl) (fun r u h_67 => ?_)
        subst h_67
        obtain ⟨t4, d4⟩ : ∃ z9, z9 = (t3.1, t3.2.1, (1 : Int32), nI (tS f q.2 t3.2.1)) := ⟨_, rfl⟩
        have hz4 : ¬ t4.2.2.1 = 0 := by rw [d4]; show ¬ (1 : Int32) = 0; decide
        have hv4 : NU f q.2 t4.2.1 v3 := by rw [d4]; exact hv3
        refine J_wq (congrArg (fun z9 => prW G p s b a f q z9 v3) d4.symm) ?_
        refine J_iret hC hR dX5_readSay_70 rfl v3 ?_ ?_ (by decide) (by decide)
        · have eS : c_rs f q.2 t = t4 := by rw [c_rs, c_s6, c_s5, show c_s4 f q.2 t = t4 from by rw [c_s4, ← s3, p_chk_f hc3 (fun h => h c_62), d4], c_sem_z hz4, p_chk_z hz4, if_neg hz4]
          rw [eS]
          exact ⟨Or.inr ⟨rfl, hz4⟩, hv4⟩
        · have eS : c_rs f q.2 t = t4 := by rw [c_rs, c_s6, c_s5, show c_s4 f q.2 t = t4 from by rw [c_s4, ← s3, p_chk_f hc3 (fun h => h c_62), d4], c_sem_z hz4, p_chk_z hz4, if_neg hz4]
          rw [eS]
    · refine J_if_ne (tgt := 40) hC dX5_readSay_35 (by decide) (fun c => absurd (by decide) c) (fun _ => ?_)
      refine J_iconst (v := 0) hC dX5_readSay_38 rfl ?_
      refine J_iret hC hR dX5_readSay_39 rfl v2 ?_ ?_ (by decide) (by decide)
      · have eS : c_rs f q.2 t = t2 := by rw [c_rs, c_s6, c_s5, c_s4, c_s3, ← s2, p_nxt_z hz2, p_chk_z hz2, c_sem_z hz2, p_chk_z hz2, if_neg hz2]
        rw [eS]
        exact ⟨Or.inr ⟨rfl, hz2⟩, hv2⟩
      · have eS : c_rs f q.2 t = t2 := by rw [c_rs, c_s6, c_s5, c_s4, c_s3, ← s2, p_nxt_z hz2, p_chk_z hz2, c_sem_z hz2, p_chk_z hz2, if_neg hz2]
        rw [eS]
  · refine J_if_ne (tgt := 9) hC dX5_readSay_4 (by decide) (fun c => absurd (by decide) c) (fun _ => ?_)
    refine J_iconst (v := 0) hC dX5_readSay_7 rfl ?_
    refine J_iret hC hR dX5_readSay_8 rfl v1 ?_ ?_ (by decide) (by decide)
    · have eS : c_rs f q.2 t = t1 := by rw [c_rs, c_s6, c_s5, c_s4, c_s3, c_s2, ← s1, c_num_z hz1, p_nxt_z hz1, p_chk_z hz1, c_sem_z hz1, p_chk_z hz1, if_neg hz1]
      rw [eS]
      exact ⟨Or.inr ⟨rfl, hz1⟩, hv1⟩
    · have eS : c_rs f q.2 t = t1 := by rw [c_rs, c_s6, c_s5, c_s4, c_s3, c_s2, ← s1, c_num_z hz1, p_nxt_z hz1, p_chk_z hz1, c_sem_z hz1, p_chk_z hz1, if_neg hz1]
      rw [eS]

set_option maxRecDepth 100000 in
set_option maxHeartbeats 4000000 in
theorem c_X5_readRetract (l : Launch) (G : gT) (p s : Nat) (b a : Nat → Nat) (f : RT) (q : RT × Nat) (t : PS CT) (v : Int32) (hf : ∀ j, j < q.2 → q.1 j &&& 255 = f j) (hq : q.2 ≤ 600) (ht : t.2.1 ≤ q.2) (hc : t.2.2.1 = 0) (hv : NU f q.2 t.2.1 v) (hI : CI t.1) : MI l yX5_readRetract cX5_readRetract 2 (some .boolean) { frames := 4, cells := 0, slots := 0, locals := 93 } [.ref (p)] G (prW G p s b a f q t v) (fun r (u : Int32) => ((r = 1 ∧ (c_rr f q.2 t).2.2.1 = 0) ∨ (r = 0 ∧ ¬ (c_rr f q.2 t).2.2.1 = 0)) ∧ NU f q.2 (c_rr f q.2 t).2.1 u) (fun u => prW G p s b a f q (c_rr f q.2 t) u) := by
  refine jm_i (own := RX5) (by decide) rfl (Nat.le_of_ble_eq_true rfl) (fun x hl hC hR hN => ?_)
  subst hl
  have hb0 := tok_b f ht hq
  refine J_aload_n hC dX5_readRetract_0 0 rfl rfl ?_
  refine J_get (v := .ref s) hC wu_X5 rfl dX5_readRetract_1 0 0 (by decide) wf_X5_23 rfl rfl ?_
  refine J_callVv hC dX5_readRetract_4 wl_X5_35 yi_X6_next (cons_v (app_v (stW G a t.1) (c_X6_next _ G s b f q (kC (tK f q.2 t.2.1)) (nI (tS f q.2 t.2.1)) (tE f q.2 t.2.1) v hf hq (tE_le f q.2 _ ht).2))) rfl rfl 1 6 rfl rfl ⟨Nat.le_of_ble_eq_true rfl, Nat.le_of_ble_eq_true rfl⟩ (Nat.le_of_ble_eq_true rfl) (Nat.le_of_ble_eq_true rfl) (Nat.le_of_ble_eq_true rfl) (fun v1 hv1 => ?_)
  obtain ⟨t1, d1⟩ : ∃ z9, z9 = p_nxt f q.2 t := ⟨_, rfl⟩
  have dd1 := d1.trans (p_nxt_pos hc)
  have hc1 : t1.2.2.1 = 0 := by rw [dd1]; exact hc
  have ht1 : t1.2.1 ≤ q.2 := by rw [d1]; exact PE_nxt ht
  have hI1 : CI t1.1 := by rw [dd1]; exact hI
  have hb1 := tok_b f ht1 hq
  rw [show tE f q.2 t.2.1 = t1.2.1 from by rw [dd1]] at hv1
  refine J_wq (show _ = prW G p s b a f q t1 v1 from by rw [dd1]; rfl) ?_
  refine J_aload_n hC dX5_readRetract_7 0 rfl rfl ?_
  refine J_get (v := .ref s) hC wu_X5 rfl dX5_readRetract_8 0 0 (by decide) wf_X5_23 rfl rfl ?_
  refine J_get (v := .int (kC (tK f q.2 t1.2.1))) hC wu_X6 rfl dX5_readRetract_11 1 1 (by decide) wf_X5_40 rfl rfl ?_
  refine J_iconst (v := 2) hC dX5_readRetract_14 rfl ?_
  refine J_ic_eq (tgt := 24) hC dX5_readRetract_15 (by decide) (fun (c_15 : (kC (tK f q.2 t1.2.1)) = 2) => ?_) (fun (c_15 : ¬ (kC (tK f q.2 t1.2.1)) = 2) => ?_)
  · have s1 : t1 = c_r1 f q.2 t := by rw [c_r1, ← d1, p_tk, p_chk_t ((kC_2 (tK_le3 f q.2 t1.2.1)).mp c_15)]
    refine J_aload_n hC dX5_readRetract_24 0 rfl rfl ?_
    refine J_get (v := .ref s) hC wu_X5 rfl dX5_readRetract_25 0 0 (by decide) wf_X5_23 rfl rfl ?_
    refine J_get (v := .int v1) hC wu_X6 rfl dX5_readRetract_28 1 4 (by decide) wf_X5_66 rfl rfl ?_
    have w1 : v1 = tW f q.2 t1.2.1 := hv1 ((kC_2 (tK_le3 f q.2 t1.2.1)).mp c_15)
    refine J_topi w1 ?_
    refine J_istore_n hC [(1, .int (tW f q.2 t1.2.1)), (0, .ref p)] dX5_readRetract_31 rfl (by decide) rfl ?_
    refine J_aload_n hC dX5_readRetract_32 1 rfl rfl ?_
    refine J_get (v := .ref (a 0)) hC wu_X5 rfl dX5_readRetract_33 0 1 (by decide) wf_X5_27 rfl rfl ?_
    refine J_get (v := .ref (a 14)) hC wu_X8 rfl dX5_readRetract_36 4 3 (by decide) wf_X5_153 rfl rfl ?_
    refine J_iload_n hC dX5_readRetract_39 0 rfl rfl ?_
    refine J_callVi hC dX5_readRetract_40 wl_X5_160 yi_X0_hasPage (cons_i (appr_i (scW G s b f q t1.2.1 v1) (c_X0_hasPage _ G a t1.1 (bcO t1.1) (tW f q.2 t1.2.1) hI1.1.1 (by have := hI1.1.2; omega)))) rfl rfl 18 0 rfl rfl ⟨Nat.le_of_ble_eq_true rfl, Nat.le_of_ble_eq_true rfl⟩ (Nat.le_of_ble_eq_true rfl) (Nat.le_of_ble_eq_true rfl) (Nat.le_of_ble_eq_true rfl) (fun r u h_40 => ?_)
    refine J_wq (show _ = prW G p s b a f q t1 v1 from rfl) ?_
    rcases h_40 with ⟨rfl, c_40⟩ | ⟨rfl, c_40⟩
    · refine J_if_ne (tgt := 52) hC dX5_readRetract_43 (by decide) (fun _ => ?_) (fun c => absurd c (by decide))
      have hbb := hI1.1.2
      obtain ⟨ev, hv4⟩ := inr_eq (n := (bcO t1.1 + 4 - 1) / 4) c_40 (by omega)
      obtain ⟨pg, hpe⟩ : ∃ z9, z9 = cl (tW f q.2 t1.2.1) := ⟨_, rfl⟩
      rw [← hpe] at ev hv4
      refine J_lvq (lv' := [(1, .int (nI pg)), (0, .ref p)]) (by rw [← ev]) ?_
      refine J_aload_n hC dX5_readRetract_52 1 rfl rfl ?_
      refine J_get (v := .ref (a 0)) hC wu_X5 rfl dX5_readRetract_53 0 1 (by decide) wf_X5_27 rfl rfl ?_
      refine J_iload_n hC dX5_readRetract_56 0 rfl rfl ?_
      refine J_callVi hC dX5_readRetract_57 wl_X5_163 yi_X8_canPayBackPage (cons_i (appr_i (scW G s b f q t1.2.1 v1) (c_X8_canPayBackPage _ G a t1.1 (bcO t1.1) pg hI1.1.1 (by have := hI1.1.2; omega) (by omega)))) rfl rfl 4 8 rfl rfl ⟨Nat.le_of_ble_eq_true rfl, Nat.le_of_ble_eq_true rfl⟩ (Nat.le_of_ble_eq_true rfl) (Nat.le_of_ble_eq_true rfl) (Nat.le_of_ble_eq_true rfl) (fun r u h_57 => ?_)
      refine J_wq (show _ = prW G p s b a f q t1 v1 from rfl) ?_
      rcases h_57 with ⟨rfl, c_57⟩ | ⟨rfl, c_57⟩
      · refine J_if_ne (tgt := 70) hC dX5_readRetract_60 (by decide) (fun _ => ?_) (fun c => absurd c (by decide))
        refine J_aload_n hC dX5_readRetract_70 1 rfl rfl ?_
        refine J_callVi hC dX5_readRetract_71 wl_X5_82 yi_X5_readSemicolon (c_X5_readSemicolon _ G p s b a f q t1 v1 hf hq ht1 hc1 hv1 hI1) rfl rfl 0 5 rfl rfl ⟨Nat.le_of_ble_eq_true rfl, Nat.le_of_ble_eq_true rfl⟩ (Nat.le_of_ble_eq_true rfl) (Nat.le_of_ble_eq_true rfl) (Nat.le_of_ble_eq_true rfl) (fun r v2 h_71 => ?_)
        obtain ⟨t2, d2⟩ : ∃ z9, z9 = c_sem f q.2 t1 := ⟨_, rfl⟩
        rw [← d2] at h_71
        obtain ⟨h_71, hv2⟩ := h_71
        have ht2 : t2.2.1 ≤ q.2 := by rw [d2]; exact PEc_sem ht1
        have hI2 : CI t2.1 := by rw [d2, c_sem_g]; exact hI1
        have hb2 := tok_b f ht2 hq
        have s2 : t2 = c_r4 f q.2 t := by rw [d2, c_r4, show c_r3 f q.2 t = t1 from by rw [c_r3, show c_r2 f q.2 t = t1 from by rw [c_r2, ← s1, p_chk_t c_40], ← s1, ← hpe, p_chk_t (show ¬ t1.1 16 1 < s_paidForPage t1.1 pg (bcO t1.1) from c_57)]]; try rfl
        refine J_wq (congrArg (fun z9 => prW G p s b a f q z9 v2) d2.symm) ?_
        rcases h_71 with ⟨rfl, hc2⟩ | ⟨rfl, hz2⟩
        · refine J_if_ne (tgt := 79) hC dX5_readRetract_74 (by decide) (fun _ => ?_) (fun c => absurd c (by decide))
          have e21 : t2.1 = t1.1 := by rw [d2, c_sem_g]
          rw [← e21] at hv4
          refine J_aload_n hC dX5_readRetract_79 1 rfl rfl ?_
          refine J_get (v := .ref (a 0)) hC wu_X5 rfl dX5_readRetract_80 0 1 (by decide) wf_X5_27 rfl rfl ?_
          refine J_iload_n hC dX5_readRetract_83 0 rfl rfl ?_
          refine J_callVi hC dX5_readRetract_84 wl_X5_166 yi_X8_takeBackPage (cons_i (appr_i (scW G s b f q t2.2.1 v2) (c_X8_takeBackPage _ G a t2.1 (bcO t2.1) (vcO t2.1) pg hI2.1.1 (by have := hI2.1.2; omega) hI2.2.1.1 (by have := hI2.2.1.2; omega) (by omega)))) rfl rfl 4 8 rfl rfl ⟨Nat.le_of_ble_eq_true rfl, Nat.le_of_ble_eq_true rfl⟩ (Nat.le_of_ble_eq_true rfl) (Nat.le_of_ble_eq_true rfl) (Nat.le_of_ble_eq_true rfl) (fun r u h_84 => ?_)
          refine J_wq (show _ = prW G p s b a f q (s_takeBack t2.1 pg (bcO t2.1) (vcO t2.1), t2.2) v2 from rfl) ?_
          subst h_84
          refine J_pop hC dX5_readRetract_87 rfl ?_
          refine J_iconst (v := 1) hC dX5_readRetract_88 rfl ?_
          refine J_iret hC hR dX5_readRetract_89 rfl v2 ?_ ?_ (by decide) (by decide)
          · have eS : c_rr f q.2 t = (s_takeBack t2.1 pg (bcO t2.1) (vcO t2.1), t2.2) := by rw [c_rr, ← s2, if_pos hc2, ← s1, ← hpe]
            rw [eS]
            dsimp only
            exact ⟨Or.inl ⟨rfl, hc2⟩, hv2⟩
          · have eS : c_rr f q.2 t = (s_takeBack t2.1 pg (bcO t2.1) (vcO t2.1), t2.2) := by rw [c_rr, ← s2, if_pos hc2, ← s1, ← hpe]
            rw [eS]
        · refine J_if_ne (tgt := 79) hC dX5_readRetract_74 (by decide) (fun c => absurd (by decide) c) (fun _ => ?_)
          refine J_iconst (v := 0) hC dX5_readRetract_77 rfl ?_
          refine J_iret hC hR dX5_readRetract_78 rfl v2 ?_ ?_ (by decide) (by decide)
          · have eS : c_rr f q.2 t = t2 := by rw [c_rr, ← s2, if_neg hz2]
            rw [eS]
            exact ⟨Or.inr ⟨rfl, hz2⟩, hv2⟩
          · have eS : c_rr f q.2 t = t2 := by rw [c_rr, ← s2, if_neg hz2]
            rw [eS]
      · refine J_if_ne (tgt := 70) hC dX5_readRetract_60 (by decide) (fun c => absurd (by decide) c) (fun _ => ?_)
        refine J_aload_n hC dX5_readRetract_63 1 rfl rfl ?_
        refine J_bipush (v := 6) hC dX5_readRetract_64 (by decide +kernel) ?_
        refine J_callVi hC dX5_readRetract_66 wl_X5_52 yi_X5_fail (c_X5_fail _ G p s b a f q t1 v1 6) rfl rfl 0 5 rfl rfl ⟨Nat.le_of_ble_eq_true rfl, Nat.le_of_ble_eq_true rfl⟩ (Nat.le_of_ble_eq_true rfl) (Nat.le_of_ble_eq_true rfl) (Nat.le_of_ble_eq_true rfl) (fun r u h_66 => ?_)
        subst h_66
        obtain ⟨t2, d2⟩ : ∃ z9, z9 = (t1.1, t1.2.1, (6 : Int32), nI (tS f q.2 t1.2.1)) := ⟨_, rfl⟩
        have hz2 : ¬ t2.2.2.1 = 0 := by rw [d2]; show ¬ (6 : Int32) = 0; decide
        have hv2 : NU f q.2 t2.2.1 v1 := by rw [d2]; exact hv1
        refine J_wq (congrArg (fun z9 => prW G p s b a f q z9 v1) d2.symm) ?_
        refine J_iret hC hR dX5_readRetract_69 rfl v1 ?_ ?_ (by decide) (by decide)
        · have eS : c_rr f q.2 t = t2 := by rw [c_rr, c_r4, show c_r3 f q.2 t = t2 from by rw [c_r3, show c_r2 f q.2 t = t1 from by rw [c_r2, ← s1, p_chk_t c_40], ← s1, ← hpe, p_chk_f hc1 (show ¬ ¬ t1.1 16 1 < s_paidForPage t1.1 pg (bcO t1.1) from c_57), d2], c_sem_z hz2, if_neg hz2]
          rw [eS]
          exact ⟨Or.inr ⟨rfl, hz2⟩, hv2⟩
        · have eS : c_rr f q.2 t = t2 := by rw [c_rr, c_r4, show c_r3 f q.2 t = t2 from by rw [c_r3, show c_r2 f q.2 t = t1 from by rw [c_r2, ← s1, p_chk_t c_40], ← s1, ← hpe, p_chk_f hc1 (show ¬ ¬ t1.1 16 1 < s_paidForPage t1.1 pg (bcO t1.1) from c_57), d2], c_sem_z hz2, if_neg hz2]
          rw [eS]
    · refine J_if_ne (tgt := 52) hC dX5_readRetract_43 (by decide) (fun c => absurd (by decide) c) (fun _ => ?_)
      refine J_aload_n hC dX5_readRetract_46 1 rfl rfl ?_
      refine J_iconst (v := 4) hC dX5_readRetract_47 rfl ?_
      refine J_callVi hC dX5_readRetract_48 wl_X5_52 yi_X5_fail (c_X5_fail _ G p s b a f q t1 v1 4) rfl rfl 0 5 rfl rfl ⟨Nat.le_of_ble_eq_true rfl, Nat.le_of_ble_eq_true rfl⟩ (Nat.le_of_ble_eq_true rfl) (Nat.le_of_ble_eq_true rfl) (Nat.le_of_ble_eq_true rfl) (fun r u h_48 => ?_)
      subst h_48
      obtain ⟨t2, d2⟩ : ∃ z9, z9 = (t1.1, t1.2.1, (4 : Int32), nI (tS f q.2 t1.2.1)) := ⟨_, rfl⟩
      have hz2 : ¬ t2.2.2.1 = 0 := by rw [d2]; show ¬ (4 : Int32) = 0; decide
      have hv2 : NU f q.2 t2.2.1 v1 := by rw [d2]; exact hv1
      refine J_wq (congrArg (fun z9 => prW G p s b a f q z9 v1) d2.symm) ?_
      refine J_iret hC hR dX5_readRetract_51 rfl v1 ?_ ?_ (by decide) (by decide)
      · have eS : c_rr f q.2 t = t2 := by rw [c_rr, c_r4, c_r3, show c_r2 f q.2 t = t2 from by rw [c_r2, ← s1, p_chk_f hc1 c_40, d2], p_chk_z hz2, c_sem_z hz2, if_neg hz2]
        rw [eS]
        exact ⟨Or.inr ⟨rfl, hz2⟩, hv2⟩
      · have eS : c_rr f q.2 t = t2 := by rw [c_rr, c_r4, c_r3, show c_r2 f q.2 t = t2 from by rw [c_r2, ← s1, p_chk_f hc1 c_40, d2], p_chk_z hz2, c_sem_z hz2, if_neg hz2]
        rw [eS]
  · refine J_aload_n hC dX5_readRetract_18 0 rfl rfl ?_
    refine J_iconst (v := 1) hC dX5_readRetract_19 rfl ?_
    refine J_callVi hC dX5_readRetract_20 wl_X5_52 yi_X5_fail (c_X5_fail _ G p s b a f q t1 v1 1) rfl rfl 0 5 rfl rfl ⟨Nat.le_of_ble_eq_true rfl, Nat.le_of_ble_eq_true rfl⟩ (Nat.le_of_ble_eq_true rfl) (Nat.le_of_ble_eq_true rfl) (Nat.le_of_ble_eq_true rfl) (fun r u h_20 => ?_)
    subst h_20
    obtain ⟨t2, d2⟩ : ∃ z9, z9 = (t1.1, t1.2.1, (1 : Int32), nI (tS f q.2 t1.2.1)) := ⟨_, rfl⟩
    have hz2 : ¬ t2.2.2.1 = 0 := by rw [d2]; show ¬ (1 : Int32) = 0; decide
    have hv2 : NU f q.2 t2.2.1 v1 := by rw [d2]; exact hv1
    refine J_wq (congrArg (fun z9 => prW G p s b a f q z9 v1) d2.symm) ?_
    refine J_iret hC hR dX5_readRetract_23 rfl v1 ?_ ?_ (by decide) (by decide)
    · have eS : c_rr f q.2 t = t2 := by rw [c_rr, c_r4, c_r3, c_r2, show c_r1 f q.2 t = t2 from by rw [c_r1, ← d1, p_tk, p_chk_f hc1 (fun h => c_15 ((kC_2 (tK_le3 f q.2 t1.2.1)).mpr h)), d2], p_chk_z hz2, p_chk_z hz2, c_sem_z hz2, if_neg hz2]
      rw [eS]
      exact ⟨Or.inr ⟨rfl, hz2⟩, hv2⟩
    · have eS : c_rr f q.2 t = t2 := by rw [c_rr, c_r4, c_r3, c_r2, show c_r1 f q.2 t = t2 from by rw [c_r1, ← d1, p_tk, p_chk_f hc1 (fun h => c_15 ((kC_2 (tK_le3 f q.2 t1.2.1)).mpr h)), d2], p_chk_z hz2, p_chk_z hz2, c_sem_z hz2, if_neg hz2]
      rw [eS]

set_option maxRecDepth 100000 in
set_option maxHeartbeats 4000000 in
theorem c_X5_readPass (l : Launch) (G : gT) (p s : Nat) (b a : Nat → Nat) (f : RT) (q : RT × Nat) (t : PS CT) (v : Int32) (hf : ∀ j, j < q.2 → q.1 j &&& 255 = f j) (hq : q.2 ≤ 600) (ht : t.2.1 ≤ q.2) (hc : t.2.2.1 = 0) (hv : NU f q.2 t.2.1 v) (hI : CI t.1) : MI l yX5_readPass cX5_readPass 2 (some .boolean) { frames := 4, cells := 0, slots := 0, locals := 102 } [.ref (p)] G (prW G p s b a f q t v) (fun r (u : Int32) => ((r = 1 ∧ (c_rp f q.2 t).2.2.1 = 0) ∨ (r = 0 ∧ ¬ (c_rp f q.2 t).2.2.1 = 0)) ∧ NU f q.2 (c_rp f q.2 t).2.1 u) (fun u => prW G p s b a f q (c_rp f q.2 t) u) := by
  refine jm_i (own := RX5) (by decide) rfl (Nat.le_of_ble_eq_true rfl) (fun x hl hC hR hN => ?_)
  subst hl
  have hb0 := tok_b f ht hq
  refine J_aload_n hC dX5_readPass_0 0 rfl rfl ?_
  refine J_iconst (v := 0) hC dX5_readPass_1 rfl ?_
  refine J_sipush (v := 200) hC dX5_readPass_2 (by decide +kernel) ?_
  refine J_callVi hC dX5_readPass_5 wl_X5_56 yi_X5_readNumber (c_X5_readNumber _ G p s b a f q t v 0 200 hf hq ht hc hv hI) rfl rfl 0 5 rfl rfl ⟨Nat.le_of_ble_eq_true rfl, Nat.le_of_ble_eq_true rfl⟩ (Nat.le_of_ble_eq_true rfl) (Nat.le_of_ble_eq_true rfl) (Nat.le_of_ble_eq_true rfl) (fun r v1 h_5 => ?_)
  obtain ⟨t1, d1⟩ : ∃ z9, z9 = c_num f q.2 t 0 200 := ⟨_, rfl⟩
  rw [← d1] at h_5
  obtain ⟨h_5, hv1⟩ := h_5
  have ht1 : t1.2.1 ≤ q.2 := by rw [d1]; exact PEc_num ht
  have hI1 : CI t1.1 := by rw [d1, c_num_g]; exact hI
  have hb1 := tok_b f ht1 hq
  have s1 : t1 = c_p1 f q.2 t := by rw [d1, c_p1]; try rfl
  refine J_wq (congrArg (fun z9 => prW G p s b a f q z9 v1) d1.symm) ?_
  rcases h_5 with ⟨rfl, hc1⟩ | ⟨rfl, hz1⟩
  · refine J_if_ne (tgt := 13) hC dX5_readPass_8 (by decide) (fun _ => ?_) (fun c => absurd c (by decide))
    refine J_aload_n hC dX5_readPass_13 0 rfl rfl ?_
    refine J_get (v := .ref s) hC wu_X5 rfl dX5_readPass_14 0 0 (by decide) wf_X5_23 rfl rfl ?_
    refine J_get (v := .int v1) hC wu_X6 rfl dX5_readPass_17 1 4 (by decide) wf_X5_66 rfl rfl ?_
    have w1 : v1 = tW f q.2 t1.2.1 := hv1 (by rw [d1]; exact (c_num_l (by rw [← d1]; exact hc1)).2.1)
    refine J_topi w1 ?_
    refine J_istore_n hC [(1, .int (tW f q.2 t1.2.1)), (0, .ref p)] dX5_readPass_20 rfl (by decide) rfl ?_
    refine J_aload_n hC dX5_readPass_21 1 rfl rfl ?_
    refine J_callVi hC dX5_readPass_22 wl_X5_82 yi_X5_readSemicolon (c_X5_readSemicolon _ G p s b a f q t1 v1 hf hq ht1 hc1 hv1 hI1) rfl rfl 0 5 rfl rfl ⟨Nat.le_of_ble_eq_true rfl, Nat.le_of_ble_eq_true rfl⟩ (Nat.le_of_ble_eq_true rfl) (Nat.le_of_ble_eq_true rfl) (Nat.le_of_ble_eq_true rfl) (fun r v2 h_22 => ?_)
    obtain ⟨t2, d2⟩ : ∃ z9, z9 = c_sem f q.2 t1 := ⟨_, rfl⟩
    rw [← d2] at h_22
    obtain ⟨h_22, hv2⟩ := h_22
    have ht2 : t2.2.1 ≤ q.2 := by rw [d2]; exact PEc_sem ht1
    have hI2 : CI t2.1 := by rw [d2, c_sem_g]; exact hI1
    have hb2 := tok_b f ht2 hq
    have s2 : t2 = c_p2 f q.2 t := by rw [d2, c_p2, ← s1]; try rfl
    refine J_wq (congrArg (fun z9 => prW G p s b a f q z9 v2) d2.symm) ?_
    rcases h_22 with ⟨rfl, hc2⟩ | ⟨rfl, hz2⟩
    · refine J_if_ne (tgt := 30) hC dX5_readPass_25 (by decide) (fun _ => ?_) (fun c => absurd c (by decide))
      obtain ⟨ev, -, hv4⟩ := rng_eq (a := 0) (b := 200) (v := tW f q.2 t1.2.1) (by omega) (by omega) (by rw [d1]; exact (c_num_l (by rw [← d1]; exact hc1)).2.2.1)
      obtain ⟨pg, hpe⟩ : ∃ z9, z9 = cl (tW f q.2 t1.2.1) := ⟨_, rfl⟩
      rw [← hpe] at ev hv4
      refine J_lvq (lv' := [(1, .int (nI pg)), (0, .ref p)]) (by rw [← ev]) ?_
      refine J_aload_n hC dX5_readPass_30 1 rfl rfl ?_
      refine J_get (v := .ref (a 0)) hC wu_X5 rfl dX5_readPass_31 0 1 (by decide) wf_X5_27 rfl rfl ?_
      refine J_iload_n hC dX5_readPass_34 0 rfl rfl ?_
      refine J_callVv hC dX5_readPass_35 wl_X5_169 yi_X8_letDaysPass (cons_v (appr_v (scW G s b f q t2.2.1 v2) (c_X8_letDaysPass _ G a t2.1 (bcO t2.1) (vcO t2.1) (fcO t2.1) (mcO t2.1) pg hI2.1.1 (by have := hI2.1.2; omega) hI2.2.1.1 (by have := hI2.2.1.2; omega) hI2.2.2.1.1 (by have := hI2.2.2.1.2; omega) hI2.2.2.2.1 (by have := hI2.2.2.2.2; omega) (by omega)))) rfl rfl 4 8 rfl rfl ⟨Nat.le_of_ble_eq_true rfl, Nat.le_of_ble_eq_true rfl⟩ (Nat.le_of_ble_eq_true rfl) (Nat.le_of_ble_eq_true rfl) (Nat.le_of_ble_eq_true rfl) (fun _ _ => ?_)
      refine J_wq (show _ = prW G p s b a f q (s_days pg t2.1, t2.2) v2 from rfl) ?_
      refine J_iconst (v := 1) hC dX5_readPass_38 rfl ?_
      refine J_iret hC hR dX5_readPass_39 rfl v2 ?_ ?_ (by decide) (by decide)
      · have eS : c_rp f q.2 t = (s_days pg t2.1, t2.2) := by rw [c_rp, ← s2, if_pos hc2, ← s1, ← hpe]
        rw [eS]
        dsimp only
        exact ⟨Or.inl ⟨rfl, hc2⟩, hv2⟩
      · have eS : c_rp f q.2 t = (s_days pg t2.1, t2.2) := by rw [c_rp, ← s2, if_pos hc2, ← s1, ← hpe]
        rw [eS]
    · refine J_if_ne (tgt := 30) hC dX5_readPass_25 (by decide) (fun c => absurd (by decide) c) (fun _ => ?_)
      refine J_iconst (v := 0) hC dX5_readPass_28 rfl ?_
      refine J_iret hC hR dX5_readPass_29 rfl v2 ?_ ?_ (by decide) (by decide)
      · have eS : c_rp f q.2 t = t2 := by rw [c_rp, ← s2, if_neg hz2]
        rw [eS]
        exact ⟨Or.inr ⟨rfl, hz2⟩, hv2⟩
      · have eS : c_rp f q.2 t = t2 := by rw [c_rp, ← s2, if_neg hz2]
        rw [eS]
  · refine J_if_ne (tgt := 13) hC dX5_readPass_8 (by decide) (fun c => absurd (by decide) c) (fun _ => ?_)
    refine J_iconst (v := 0) hC dX5_readPass_11 rfl ?_
    refine J_iret hC hR dX5_readPass_12 rfl v1 ?_ ?_ (by decide) (by decide)
    · have eS : c_rp f q.2 t = t1 := by rw [c_rp, c_p2, ← s1, c_sem_z hz1, if_neg hz1]
      rw [eS]
      exact ⟨Or.inr ⟨rfl, hz1⟩, hv1⟩
    · have eS : c_rp f q.2 t = t1 := by rw [c_rp, c_p2, ← s1, c_sem_z hz1, if_neg hz1]
      rw [eS]


set_option maxRecDepth 100000 in
set_option maxHeartbeats 4000000 in
theorem k_trustAfter {x : JX} {G : gT} {w0 : Cond} {b L : Nat} {xs : Nat → Int32} (hX : LX x G w0 b L xs) {ol od : Nat} {u : Nat → Nat → Nat} {m : Nat → Nat} {z : OS} {M : CT} {f : Nat → Int64} {g : Nat → UInt64} {c k n : Nat} (hp : 6 * c + 6 ≤ L) (h : REL c z M) (hk : k ≤ 600000) (hn : n ≤ 7200000) (kk : LK x G b ol od u m c k n) : J x G (LW G ol od u m z M f g) k n (lvL b u m ol od c) [] 2094 := by
  obtain ⟨hC, hst, hxT, hxN, hX, hbl, hbA, hL⟩ := hX
  have hc : c ≤ 600 := by omega
  refine J_aload_n hC dL_law_2094 1 rfl rfl ?_
  refine J_aload_n hC dL_law_2095 0 rfl rfl ?_
  refine J_iload hC dL_law_2096 5 rfl ?_
  refine J_iconst (v := nI 1) hC dL_law_2098 rfl ?_
  refine J_iadd (v := nI (6 * c + 1)) hC dL_law_2099 (nI_add _ _) ?_
  refine J_sald (v := xs (6 * c + 1)) hC hX hbl hbA dL_law_2100 (by omega) (by omega) rfl ?_
  refine J_aload_n hC dL_law_2101 0 rfl rfl ?_
  refine J_iload hC dL_law_2102 5 rfl ?_
  refine J_iconst (v := nI 2) hC dL_law_2104 rfl ?_
  refine J_iadd (v := nI (6 * c + 2)) hC dL_law_2105 (nI_add _ _) ?_
  refine J_sald (v := xs (6 * c + 2)) hC hX hbl hbA dL_law_2106 (by omega) (by omega) rfl ?_
  refine J_aload_n hC dL_law_2107 3 rfl rfl ?_
  refine J_callW hC hxT hxN dL_law_2108 wl_L_291 yw_trustAfter (lw_i (u := u) (m := m) (z := z) (z1 := fun (w : Nat × Nat) => zDs z (s_days w.2 (zS z))) (z2 := fun (_ : Nat) => z) (w_trustAfter (jl x) G (ofW G u z) (u 4 0) ol _ (of_0 G u z) (xs (6 * c + 1)) (xs (6 * c + 2)) f (b_trustAfter (jl x) G u z (xs (6 * c + 1)) (xs (6 * c + 2)) h.ci hst) (fun u9 hp9 => by
    rcases hp9 with ⟨e8, _⟩ | ⟨e8, _⟩
    · exact Or.inl (if_pos e8)
    · exact Or.inr (if_neg (by rw [e8]; decide))))) rfl rfl ⟨Nat.le_of_ble_eq_true rfl, Nat.le_of_ble_eq_true rfl⟩ (Nat.le_of_ble_eq_true rfl) (show k + 2 ≤ 601024 by omega) (show n + 12 ≤ 7293034 by omega) (fun r v hv => ?_)
  obtain ⟨z9, hz9⟩ : ∃ q, q = zW (fun (w : Nat × Nat) => zDs z (s_days w.2 (zS z))) (fun (_ : Nat) => z) v := ⟨_, rfl⟩
  obtain ⟨f9, hf9⟩ : ∃ q, q = fW f v := ⟨_, rfl⟩
  refine J_wq (show _ = LW G ol od u m z9 M f9 g from by rw [hz9, hf9]) ?_
  refine J_istore hC [(6, .int r), (0, .ref b), (1, .ref (u 4 0)), (2, .ref (m 0)), (3, .ref ol), (4, .ref od), (5, .int (nI (6 * c)))] dL_law_2111 (by decide) rfl ?_
  refine J_aload_n hC dL_law_2113 3 rfl rfl ?_
  refine J_aload_n hC dL_law_2114 1 rfl rfl ?_
  refine J_iload hC dL_law_2115 6 rfl ?_
  refine J_iconst (v := nI 1) hC dL_law_2117 rfl ?_
  refine J_iadd (v := nI (6 * c + 1)) hC dL_law_2118 (nI_add _ _) ?_
  refine J_sald (v := xs (6 * c + 1)) hC hX hbl hbA dL_law_2119 (by omega) (by omega) rfl ?_
  refine J_aload_n hC dL_law_2120 1 rfl rfl ?_
  refine J_iload hC dL_law_2121 6 rfl ?_
  refine J_iconst (v := nI 2) hC dL_law_2123 rfl ?_
  refine J_iadd (v := nI (6 * c + 2)) hC dL_law_2124 (nI_add _ _) ?_
  refine J_sald (v := xs (6 * c + 2)) hC hX hbl hbA dL_law_2125 (by omega) (by omega) rfl ?_
  obtain ⟨fs2, hm2⟩ := lw_m G ol od u m z9 M f9 g
  refine J_callVi hC dL_law_2126 wl_L_293 yi_X11_trustAfter (lm_i (c_X11_trustAfter _ G m M (m_bc (M 0)) (m_vc (M 0)) (m_fc (M 0)) (m_mc (M 0)) (xs (6 * c + 1)) (xs (6 * c + 2)) h.bc.1 h.bc.2 h.vc.1 h.vc.2 h.fc.1 h.fc.2 h.mc.1 h.mc.2 h.gi)) rfl rfl 275 11 hm2 rfl ⟨Nat.le_of_ble_eq_true rfl, Nat.le_of_ble_eq_true rfl⟩ (Nat.le_of_ble_eq_true rfl) (show k + 2 + 0 ≤ 601024 by omega) (show n + 12 + 0 ≤ 7293034 by omega) (fun r2 M2 h2 => ?_)
  obtain ⟨q1, q2, q3⟩ := eq_trustAfter h hc (f := f) (xs (6 * c + 1)) (xs (6 * c + 2)) hv h2
  rw [← hz9] at q3
  rw [← hf9] at q2
  refine J_istore hC [(7, .int r2), (6, .int r), (0, .ref b), (1, .ref (u 4 0)), (2, .ref (m 0)), (3, .ref ol), (4, .ref od), (5, .int (nI (6 * c)))] dL_law_2129 (by decide) rfl ?_
  refine J_aload_n hC dL_law_2131 4 rfl rfl ?_
  obtain ⟨fs3, hm3⟩ := lw_m G ol od u m z9 M2 f9 g
  refine J_callVi hC dL_law_2132 wl_L_149 yi_X11_thrown (lm_i (c_X11_thrown _ G m M2)) rfl rfl 275 11 hm3 rfl ⟨Nat.le_of_ble_eq_true rfl, Nat.le_of_ble_eq_true rfl⟩ (Nat.le_of_ble_eq_true rfl) (show k + 2 + 0 + 0 ≤ 601024 by omega) (show n + 12 + 0 + 0 ≤ 7293034 by omega) (fun r3 u3 h3 => ?_)
  refine J_wq (show _ = LW G ol od u m z9 M2 f9 g from rfl) ?_
  subst h3
  refine J_iload hC dL_law_2135 1 rfl ?_
  refine J_ic_eq (tgt := 2142) hC dL_law_2137 (by decide) (fun _ => ?_) (fun c9 => absurd q1 c9)
  refine J_iload hC dL_law_2142 1 rfl ?_
  refine J_if_ne (tgt := 2159) hC dL_law_2144 (by decide) (fun c9 => ?_) (fun c9 => ?_)
  · refine J_goto (tgt := 2975) hC dL_law_2159 (by decide) ?_
    refine J_lv (lv' := lvL b u m ol od c) [2, 3, 4, 5, 6, 7] rfl ?_
    refine J_wid (k' := k + 4) (n' := n + 24) (show k + 2 + 0 + 0 ≤ k + 4 by omega) (show n + 12 + 0 + 0 ≤ n + 24 by omega) ?_
    exact kk z9 M2 f9 g q3
  · refine J_aload_n hC dL_law_2147 5 rfl rfl ?_
    refine J_iconst (v := nI 0) hC dL_law_2148 rfl ?_
    refine J_lald (i := 0) (v := f9 0) hC dL_law_2149 0 rfl (by decide) (by decide) rfl ?_
    refine J_iload hC dL_law_2150 0 rfl ?_
    refine J_i2l (v := r2.toInt64) hC dL_law_2152 rfl ?_
    refine J_lcmp hC dL_law_2153 ?_
    refine J_topi (show lg_cmp (f9 0) r2.toInt64 = 0 from by rw [q2 c9]; exact lg_cmp_self _) ?_
    refine J_if_eq (tgt := 2159) hC dL_law_2154 (by decide) (fun _ => ?_) (fun c8 => absurd rfl c8)
    refine J_goto (tgt := 2975) hC dL_law_2159 (by decide) ?_
    refine J_lv (lv' := lvL b u m ol od c) [2, 3, 4, 5, 6, 7] rfl ?_
    refine J_wid (k' := k + 4) (n' := n + 24) (show k + 2 + 0 + 0 ≤ k + 4 by omega) (show n + 12 + 0 + 0 ≤ n + 24 by omega) ?_
    exact kk z9 M2 f9 g q3

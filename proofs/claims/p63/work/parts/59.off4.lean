set_option maxRecDepth 100000 in
set_option maxHeartbeats 4000000 in
theorem c_X10_setTrust (l : Launch) (G : gT) (o : Nat) (R a : Nat → Nat) (S : CT) (ec ep : Int32) (v t : Int32) (h r : Nat) (A : Nat → Nat → Nat) (n k : Nat) (T : Nat → CT) (hh : R 3 = h) (hn : n < 8) (hk : k ≤ 8) (hI : CI S) (hst : l.stackTraces = false) : TI l yX10_setTrust cX10_setTrust 4 (some .int) { frames := 7, cells := 2, slots := 12, locals := 104 } [.ref o, .int v, .int t] G (oW G o R a S ec ep ++ hiW G h r A n k T) (fun r9 (w : Nat) => (w < vcO S ∧ v = nI w) ∧ (¬ t < 0 ∧ ¬ 100 < t) ∧ r9 = S 2 w) (fun w => oW G o R a (us S 2 w t) ec ep ++ hiW G h r A ((n + 1) % 8) (min (k + 1) 8) (updT T n S)) (fun (u : Nat) => (u = 0 ∧ ¬ (¬ v < 0 ∧ v < nI (vcO S))) ∨ (u = 1 ∧ (¬ v < 0 ∧ v < nI (vcO S)) ∧ ¬ (¬ t < 0 ∧ ¬ 100 < t))) (fun u => if u = 0 then eIOOB else eIAE) (fun _ => oW G o R a S ec ep ++ hiW G h r A n k T) := by
  refine jt_i (own := RX10) hst (by decide) rfl (Nat.le_of_ble_eq_true rfl) (fun x hl hC hR hN => ?_)
  subst hl
  refine J_aload_n hC dX10_setTrust_0 0 rfl rfl ?_
  refine J_iload_n hC dX10_setTrust_1 1 rfl rfl ?_
  refine J_callTv hC hR.2 dX10_setTrust_2 wl_X10_139 yi_X10_requireVillage (frt_v (wr := hiW G h r A n k T) (c_X10_requireVillage _ G o R a S ec ep v hI hst) (List.Perm.refl _) (fun _ => List.Perm.refl _) (fun _ => List.Perm.refl _)) rfl rfl 0 10 rfl rfl ⟨Nat.le_of_ble_eq_true rfl, Nat.le_of_ble_eq_true rfl⟩ (Nat.le_of_ble_eq_true rfl) (Nat.le_of_ble_eq_true rfl) (Nat.le_of_ble_eq_true rfl) (Nat.le_of_ble_eq_true rfl) (Nat.le_of_ble_eq_true rfl) (fun _ h9 => ⟨0, Or.inl ⟨rfl, h9⟩, rfl, rfl⟩) (fun u hv0 => ?_)
  refine J_wq (show _ = oW G o R a S ec ep ++ hiW G h r A n k T from rfl) ?_
  refine J_aload_n hC dX10_setTrust_5 0 rfl rfl ?_
  refine J_iload_n hC dX10_setTrust_6 2 rfl rfl ?_
  refine J_iconst (v := 0) hC dX10_setTrust_7 rfl ?_
  refine J_bipush (v := 100) hC dX10_setTrust_8 rfl ?_
  refine J_callTv hC hR.2 dX10_setTrust_10 wl_X10_84 yi_X10_requireRange (frt_v (wr := hiW G h r A n k T) (c_X10_requireRange _ G o R a S ec ep t 0 100 hst) (List.Perm.refl _) (fun _ => List.Perm.refl _) (fun _ => List.Perm.refl _)) rfl rfl 0 10 rfl rfl ⟨Nat.le_of_ble_eq_true rfl, Nat.le_of_ble_eq_true rfl⟩ (Nat.le_of_ble_eq_true rfl) (Nat.le_of_ble_eq_true rfl) (Nat.le_of_ble_eq_true rfl) (Nat.le_of_ble_eq_true rfl) (Nat.le_of_ble_eq_true rfl) (fun _ h9 => ⟨1, Or.inr ⟨rfl, hv0, h9⟩, rfl, rfl⟩) (fun u ht0 => ?_)
  refine J_wq (show _ = oW G o R a S ec ep ++ hiW G h r A n k T from rfl) ?_
  have hsz := hI.2.1.2
  obtain ⟨w, hw, hv⟩ := has_nat hv0 (by omega)
  subst hv
  refine J_aload_n hC dX10_setTrust_13 0 rfl rfl ?_
  refine J_get (v := .ref h) hC wu_X10 rfl dX10_setTrust_14 0 4 (by decide) wf_X10_32 rfl (by rw [← hh]; rfl) ?_
  refine J_aload_n hC dX10_setTrust_17 0 rfl rfl ?_
  refine J_get (v := .ref (a 0)) hC wu_X10 rfl dX10_setTrust_18 0 2 (by decide) wf_X10_22 rfl rfl ?_
  refine J_callVv hC dX10_setTrust_21 wl_X10_96 yi_X3_remember (fr_v (c_X3_remember (jl x) G h r A n k T a S hn hk) (perm_sw _ (stW G a S) (hiW G h r A n k T)) (fun _ => (perm_sw _ (stW G a S) (hiW G h r A ((n + 1) % 8) (min (k + 1) 8) (updT T n S))).symm)) rfl rfl 23 3 rfl rfl ⟨Nat.le_of_ble_eq_true rfl, Nat.le_of_ble_eq_true rfl⟩ (Nat.le_of_ble_eq_true rfl) (Nat.le_of_ble_eq_true rfl) (Nat.le_of_ble_eq_true rfl) (fun u8 h8 => ?_)
  refine J_wq (show _ = oW G o R a S ec ep ++ hiW G h r A ((n + 1) % 8) (min (k + 1) 8) (updT T n S) from rfl) ?_
  refine J_aload_n hC dX10_setTrust_24 0 rfl rfl ?_
  refine J_get (v := .ref (a 0)) hC wu_X10 rfl dX10_setTrust_25 0 2 (by decide) wf_X10_22 rfl rfl ?_
  refine J_get (v := .ref (a 1)) hC wu_X8 rfl dX10_setTrust_28 1 0 (by decide) wf_X10_99 rfl rfl ?_
  refine J_get (v := .ref (a 4)) hC wu_X9 rfl dX10_setTrust_31 2 2 (by decide) wf_X10_146 rfl rfl ?_
  refine J_iload_n hC dX10_setTrust_34 1 rfl rfl ?_
  refine J_iald (v := S 2 w) hC dX10_setTrust_35 5 rfl (show w < 6 by omega) (by decide) rfl ?_
  refine J_istore_n hC [(3, .int (S 2 w)), (0, .ref o), (1, .int (nI w)), (2, .int t)] dX10_setTrust_36 rfl (by decide) rfl ?_
  refine J_aload_n hC dX10_setTrust_37 1 rfl rfl ?_
  refine J_get (v := .ref (a 0)) hC wu_X10 rfl dX10_setTrust_38 0 2 (by decide) wf_X10_22 rfl rfl ?_
  refine J_get (v := .ref (a 1)) hC wu_X8 rfl dX10_setTrust_41 1 0 (by decide) wf_X10_99 rfl rfl ?_
  refine J_get (v := .ref (a 4)) hC wu_X9 rfl dX10_setTrust_44 2 2 (by decide) wf_X10_146 rfl rfl ?_
  refine J_iload_n hC dX10_setTrust_47 2 rfl rfl ?_
  refine J_iload_n hC dX10_setTrust_48 3 rfl rfl ?_
  refine J_iast (i := w) (ws' := oW G o R a (us S 2 w t) ec ep ++ hiW G h r A ((n + 1) % 8) (min (k + 1) 8) (updT T n S)) hC dX10_setTrust_49 5 rfl (show w < 6 by omega) (by decide) rfl ?_
  refine J_iload_n hC dX10_setTrust_50 0 rfl rfl ?_
  exact J_iretT hC hR dX10_setTrust_51 rfl w ⟨⟨hw, rfl⟩, ht0, rfl⟩ rfl (Nat.le_of_ble_eq_true rfl) (Nat.le_of_ble_eq_true rfl)

set_option maxRecDepth 100000 in
set_option maxHeartbeats 4000000 in
theorem c_X10_setPeople (l : Launch) (G : gT) (o : Nat) (R a : Nat → Nat) (S : CT) (ec ep : Int32) (v t : Int32) (h r : Nat) (A : Nat → Nat → Nat) (n k : Nat) (T : Nat → CT) (hh : R 3 = h) (hn : n < 8) (hk : k ≤ 8) (hI : CI S) (hst : l.stackTraces = false) : TI l yX10_setPeople cX10_setPeople 4 (some .int) { frames := 7, cells := 2, slots := 12, locals := 104 } [.ref o, .int v, .int t] G (oW G o R a S ec ep ++ hiW G h r A n k T) (fun r9 (w : Nat) => (w < vcO S ∧ v = nI w) ∧ (¬ t < 1 ∧ ¬ 99 < t) ∧ r9 = S 1 w) (fun w => oW G o R a (us S 1 w t) ec ep ++ hiW G h r A ((n + 1) % 8) (min (k + 1) 8) (updT T n S)) (fun (u : Nat) => (u = 0 ∧ ¬ (¬ v < 0 ∧ v < nI (vcO S))) ∨ (u = 1 ∧ (¬ v < 0 ∧ v < nI (vcO S)) ∧ ¬ (¬ t < 1 ∧ ¬ 99 < t))) (fun u => if u = 0 then eIOOB else eIAE) (fun _ => oW G o R a S ec ep ++ hiW G h r A n k T) := by
  refine jt_i (own := RX10) hst (by decide) rfl (Nat.le_of_ble_eq_true rfl) (fun x hl hC hR hN => ?_)
  subst hl
  refine J_aload_n hC dX10_setPeople_0 0 rfl rfl ?_
  refine J_iload_n hC dX10_setPeople_1 1 rfl rfl ?_
  refine J_callTv hC hR.2 dX10_setPeople_2 wl_X10_139 yi_X10_requireVillage (frt_v (wr := hiW G h r A n k T) (c_X10_requireVillage _ G o R a S ec ep v hI hst) (List.Perm.refl _) (fun _ => List.Perm.refl _) (fun _ => List.Perm.refl _)) rfl rfl 0 10 rfl rfl ⟨Nat.le_of_ble_eq_true rfl, Nat.le_of_ble_eq_true rfl⟩ (Nat.le_of_ble_eq_true rfl) (Nat.le_of_ble_eq_true rfl) (Nat.le_of_ble_eq_true rfl) (Nat.le_of_ble_eq_true rfl) (Nat.le_of_ble_eq_true rfl) (fun _ h9 => ⟨0, Or.inl ⟨rfl, h9⟩, rfl, rfl⟩) (fun u hv0 => ?_)
  refine J_wq (show _ = oW G o R a S ec ep ++ hiW G h r A n k T from rfl) ?_
  refine J_aload_n hC dX10_setPeople_5 0 rfl rfl ?_
  refine J_iload_n hC dX10_setPeople_6 2 rfl rfl ?_
  refine J_iconst (v := 1) hC dX10_setPeople_7 rfl ?_
  refine J_bipush (v := 99) hC dX10_setPeople_8 rfl ?_
  refine J_callTv hC hR.2 dX10_setPeople_10 wl_X10_84 yi_X10_requireRange (frt_v (wr := hiW G h r A n k T) (c_X10_requireRange _ G o R a S ec ep t 1 99 hst) (List.Perm.refl _) (fun _ => List.Perm.refl _) (fun _ => List.Perm.refl _)) rfl rfl 0 10 rfl rfl ⟨Nat.le_of_ble_eq_true rfl, Nat.le_of_ble_eq_true rfl⟩ (Nat.le_of_ble_eq_true rfl) (Nat.le_of_ble_eq_true rfl) (Nat.le_of_ble_eq_true rfl) (Nat.le_of_ble_eq_true rfl) (Nat.le_of_ble_eq_true rfl) (fun _ h9 => ⟨1, Or.inr ⟨rfl, hv0, h9⟩, rfl, rfl⟩) (fun u ht0 => ?_)
  refine J_wq (show _ = oW G o R a S ec ep ++ hiW G h r A n k T from rfl) ?_
  have hsz := hI.2.1.2
  obtain ⟨w, hw, hv⟩ := has_nat hv0 (by omega)
  subst hv
  refine J_aload_n hC dX10_setPeople_13 0 rfl rfl ?_
  refine J_get (v := .ref h) hC wu_X10 rfl dX10_setPeople_14 0 4 (by decide) wf_X10_32 rfl (by rw [← hh]; rfl) ?_
  refine J_aload_n hC dX10_setPeople_17 0 rfl rfl ?_
  refine J_get (v := .ref (a 0)) hC wu_X10 rfl dX10_setPeople_18 0 2 (by decide) wf_X10_22 rfl rfl ?_
  refine J_callVv hC dX10_setPeople_21 wl_X10_96 yi_X3_remember (fr_v (c_X3_remember (jl x) G h r A n k T a S hn hk) (perm_sw _ (stW G a S) (hiW G h r A n k T)) (fun _ => (perm_sw _ (stW G a S) (hiW G h r A ((n + 1) % 8) (min (k + 1) 8) (updT T n S))).symm)) rfl rfl 23 3 rfl rfl ⟨Nat.le_of_ble_eq_true rfl, Nat.le_of_ble_eq_true rfl⟩ (Nat.le_of_ble_eq_true rfl) (Nat.le_of_ble_eq_true rfl) (Nat.le_of_ble_eq_true rfl) (fun u8 h8 => ?_)
  refine J_wq (show _ = oW G o R a S ec ep ++ hiW G h r A ((n + 1) % 8) (min (k + 1) 8) (updT T n S) from rfl) ?_
  refine J_aload_n hC dX10_setPeople_24 0 rfl rfl ?_
  refine J_get (v := .ref (a 0)) hC wu_X10 rfl dX10_setPeople_25 0 2 (by decide) wf_X10_22 rfl rfl ?_
  refine J_get (v := .ref (a 1)) hC wu_X8 rfl dX10_setPeople_28 1 0 (by decide) wf_X10_99 rfl rfl ?_
  refine J_get (v := .ref (a 3)) hC wu_X9 rfl dX10_setPeople_31 2 1 (by decide) wf_X10_142 rfl rfl ?_
  refine J_iload_n hC dX10_setPeople_34 1 rfl rfl ?_
  refine J_iald (v := S 1 w) hC dX10_setPeople_35 4 rfl (show w < 6 by omega) (by decide) rfl ?_
  refine J_istore_n hC [(3, .int (S 1 w)), (0, .ref o), (1, .int (nI w)), (2, .int t)] dX10_setPeople_36 rfl (by decide) rfl ?_
  refine J_aload_n hC dX10_setPeople_37 1 rfl rfl ?_
  refine J_get (v := .ref (a 0)) hC wu_X10 rfl dX10_setPeople_38 0 2 (by decide) wf_X10_22 rfl rfl ?_
  refine J_get (v := .ref (a 1)) hC wu_X8 rfl dX10_setPeople_41 1 0 (by decide) wf_X10_99 rfl rfl ?_
  refine J_get (v := .ref (a 3)) hC wu_X9 rfl dX10_setPeople_44 2 1 (by decide) wf_X10_142 rfl rfl ?_
  refine J_iload_n hC dX10_setPeople_47 2 rfl rfl ?_
  refine J_iload_n hC dX10_setPeople_48 3 rfl rfl ?_
  refine J_iast (i := w) (ws' := oW G o R a (us S 1 w t) ec ep ++ hiW G h r A ((n + 1) % 8) (min (k + 1) 8) (updT T n S)) hC dX10_setPeople_49 4 rfl (show w < 6 by omega) (by decide) rfl ?_
  refine J_iload_n hC dX10_setPeople_50 0 rfl rfl ?_
  exact J_iretT hC hR dX10_setPeople_51 rfl w ⟨⟨hw, rfl⟩, ht0, rfl⟩ rfl (Nat.le_of_ble_eq_true rfl) (Nat.le_of_ble_eq_true rfl)

set_option maxRecDepth 100000 in
set_option maxHeartbeats 4000000 in
theorem c_X10_setOdds (l : Launch) (G : gT) (o : Nat) (R a : Nat → Nat) (S : CT) (ec ep : Int32) (v t : Int32) (h r : Nat) (A : Nat → Nat → Nat) (n k : Nat) (T : Nat → CT) (hh : R 3 = h) (hn : n < 8) (hk : k ≤ 8) (hI : CI S) (hst : l.stackTraces = false) : TI l yX10_setOdds cX10_setOdds 4 (some .int) { frames := 7, cells := 3, slots := 18, locals := 104 } [.ref o, .int v, .int t] G (oW G o R a S ec ep ++ hiW G h r A n k T) (fun r9 (w : Nat) => (w < 3 ∧ v = nI w) ∧ (¬ t < 0 ∧ ¬ 20 < t) ∧ ¬ s_sumO S - S 8 w + t = 0 ∧ r9 = S 8 w) (fun w => oW G o R a (us S 8 w t) ec ep ++ hiW G h r A ((n + 1) % 8) (min (k + 1) 8) (updT T n S)) (fun (u : Nat × Nat) => (u.1 = 0 ∧ ¬ (¬ v < 0 ∧ ¬ 2 < v)) ∨ (u.1 = 0 ∧ (¬ v < 0 ∧ ¬ 2 < v) ∧ ¬ (¬ t < 0 ∧ ¬ 20 < t)) ∨ (u.1 = 1 ∧ (u.2 < 3 ∧ v = nI u.2) ∧ (¬ t < 0 ∧ ¬ 20 < t) ∧ s_sumO S - S 8 u.2 + t = 0)) (fun u => if u.1 = 0 then eIAE else eISE) (fun _ => oW G o R a S ec ep ++ hiW G h r A n k T) := by
  refine jt_i (own := RX10) hst (by decide) rfl (Nat.le_of_ble_eq_true rfl) (fun x hl hC hR hN => ?_)
  subst hl
  refine J_aload_n hC dX10_setOdds_0 0 rfl rfl ?_
  refine J_iload_n hC dX10_setOdds_1 1 rfl rfl ?_
  refine J_iconst (v := 0) hC dX10_setOdds_2 rfl ?_
  refine J_iconst (v := 2) hC dX10_setOdds_3 rfl ?_
  refine J_callTv hC hR.2 dX10_setOdds_4 wl_X10_84 yi_X10_requireRange (frt_v (wr := hiW G h r A n k T) (c_X10_requireRange _ G o R a S ec ep v 0 2 hst) (List.Perm.refl _) (fun _ => List.Perm.refl _) (fun _ => List.Perm.refl _)) rfl rfl 0 10 rfl rfl ⟨Nat.le_of_ble_eq_true rfl, Nat.le_of_ble_eq_true rfl⟩ (Nat.le_of_ble_eq_true rfl) (Nat.le_of_ble_eq_true rfl) (Nat.le_of_ble_eq_true rfl) (Nat.le_of_ble_eq_true rfl) (Nat.le_of_ble_eq_true rfl) (fun _ h9 => ⟨(0, 0), Or.inl ⟨rfl, h9⟩, rfl, rfl⟩) (fun u hv0 => ?_)
  refine J_wq (show _ = oW G o R a S ec ep ++ hiW G h r A n k T from rfl) ?_
  refine J_aload_n hC dX10_setOdds_7 0 rfl rfl ?_
  refine J_iload_n hC dX10_setOdds_8 2 rfl rfl ?_
  refine J_iconst (v := 0) hC dX10_setOdds_9 rfl ?_
  refine J_bipush (v := 20) hC dX10_setOdds_10 rfl ?_
  refine J_callTv hC hR.2 dX10_setOdds_12 wl_X10_84 yi_X10_requireRange (frt_v (wr := hiW G h r A n k T) (c_X10_requireRange _ G o R a S ec ep t 0 20 hst) (List.Perm.refl _) (fun _ => List.Perm.refl _) (fun _ => List.Perm.refl _)) rfl rfl 0 10 rfl rfl ⟨Nat.le_of_ble_eq_true rfl, Nat.le_of_ble_eq_true rfl⟩ (Nat.le_of_ble_eq_true rfl) (Nat.le_of_ble_eq_true rfl) (Nat.le_of_ble_eq_true rfl) (Nat.le_of_ble_eq_true rfl) (Nat.le_of_ble_eq_true rfl) (fun _ h9 => ⟨(0, 0), Or.inr (Or.inl ⟨rfl, hv0, h9⟩), rfl, rfl⟩) (fun u ht0 => ?_)
  refine J_wq (show _ = oW G o R a S ec ep ++ hiW G h r A n k T from rfl) ?_
  obtain ⟨w, hw, hv⟩ := wea_nat hv0
  subst hv
  refine J_aload_n hC dX10_setOdds_15 0 rfl rfl ?_
  refine J_get (v := .ref (a 0)) hC wu_X10 rfl dX10_setOdds_16 0 2 (by decide) wf_X10_22 rfl rfl ?_
  refine J_get (v := .ref (a 11)) hC wu_X8 rfl dX10_setOdds_19 1 2 (by decide) wf_X10_111 rfl rfl ?_
  refine J_get (v := .ref (a 12)) hC wu_X7 rfl dX10_setOdds_22 12 0 (by decide) wf_X10_175 rfl rfl ?_
  refine J_iload_n hC dX10_setOdds_25 1 rfl rfl ?_
  refine J_iald (v := S 8 w) hC dX10_setOdds_26 13 rfl hw (by decide) rfl ?_
  refine J_istore_n hC [(3, .int (S 8 w)), (0, .ref o), (1, .int (nI w)), (2, .int t)] dX10_setOdds_27 rfl (by decide) rfl ?_
  refine J_aload_n hC dX10_setOdds_28 1 rfl rfl ?_
  refine J_get (v := .ref (a 0)) hC wu_X10 rfl dX10_setOdds_29 0 2 (by decide) wf_X10_22 rfl rfl ?_
  refine J_get (v := .ref (a 11)) hC wu_X8 rfl dX10_setOdds_32 1 2 (by decide) wf_X10_111 rfl rfl ?_
  refine J_callVi hC dX10_setOdds_35 wl_X10_178 yi_X7_sumOfOdds (app_i (hiW G h r A n k T) (cons_i (c_X7_sumOfOdds _ G a S))) rfl rfl 12 7 rfl rfl ⟨Nat.le_of_ble_eq_true rfl, Nat.le_of_ble_eq_true rfl⟩ (Nat.le_of_ble_eq_true rfl) (Nat.le_of_ble_eq_true rfl) (Nat.le_of_ble_eq_true rfl) (fun r9 u9 h9 => ?_)
  refine J_wq (show _ = oW G o R a S ec ep ++ hiW G h r A n k T from rfl) ?_
  subst h9
  refine J_iload_n hC dX10_setOdds_38 0 rfl rfl ?_
  refine J_isub (v := s_sumO S - S 8 w) hC dX10_setOdds_39 rfl ?_
  refine J_iload_n hC dX10_setOdds_40 3 rfl rfl ?_
  refine J_iadd (v := s_sumO S - S 8 w + t) hC dX10_setOdds_41 rfl ?_
  refine J_if_ne (tgt := 53) hC dX10_setOdds_42 (by decide) (fun c => ?_) (fun c => ?_)
  · refine J_aload_n hC dX10_setOdds_53 1 rfl rfl ?_
    refine J_get (v := .ref h) hC wu_X10 rfl dX10_setOdds_54 0 4 (by decide) wf_X10_32 rfl (by rw [← hh]; rfl) ?_
    refine J_aload_n hC dX10_setOdds_57 1 rfl rfl ?_
    refine J_get (v := .ref (a 0)) hC wu_X10 rfl dX10_setOdds_58 0 2 (by decide) wf_X10_22 rfl rfl ?_
    refine J_callVv hC dX10_setOdds_61 wl_X10_96 yi_X3_remember (fr_v (c_X3_remember (jl x) G h r A n k T a S hn hk) (perm_sw _ (stW G a S) (hiW G h r A n k T)) (fun _ => (perm_sw _ (stW G a S) (hiW G h r A ((n + 1) % 8) (min (k + 1) 8) (updT T n S))).symm)) rfl rfl 23 3 rfl rfl ⟨Nat.le_of_ble_eq_true rfl, Nat.le_of_ble_eq_true rfl⟩ (Nat.le_of_ble_eq_true rfl) (Nat.le_of_ble_eq_true rfl) (Nat.le_of_ble_eq_true rfl) (fun u8 h8 => ?_)
    refine J_wq (show _ = oW G o R a S ec ep ++ hiW G h r A ((n + 1) % 8) (min (k + 1) 8) (updT T n S) from rfl) ?_
    refine J_aload_n hC dX10_setOdds_64 1 rfl rfl ?_
    refine J_get (v := .ref (a 0)) hC wu_X10 rfl dX10_setOdds_65 0 2 (by decide) wf_X10_22 rfl rfl ?_
    refine J_get (v := .ref (a 11)) hC wu_X8 rfl dX10_setOdds_68 1 2 (by decide) wf_X10_111 rfl rfl ?_
    refine J_get (v := .ref (a 12)) hC wu_X7 rfl dX10_setOdds_71 12 0 (by decide) wf_X10_175 rfl rfl ?_
    refine J_iload_n hC dX10_setOdds_74 2 rfl rfl ?_
    refine J_iload_n hC dX10_setOdds_75 3 rfl rfl ?_
    refine J_iast (i := w) (ws' := oW G o R a (us S 8 w t) ec ep ++ hiW G h r A ((n + 1) % 8) (min (k + 1) 8) (updT T n S)) hC dX10_setOdds_76 13 rfl hw (by decide) rfl ?_
    refine J_iload_n hC dX10_setOdds_77 0 rfl rfl ?_
    exact J_iretT hC hR dX10_setOdds_78 rfl w ⟨⟨hw, rfl⟩, ht0, c, rfl⟩ rfl (Nat.le_of_ble_eq_true rfl) (Nat.le_of_ble_eq_true rfl)
  · exact J_throw0 hC hR.2 gf_ISE gf_names wk_X10_74 wi_IllegalStateException wsL_law_x0 gt_ISE gg_ISE dX10_setOdds_45 dX10_setOdds_48 dX10_setOdds_49 dX10_setOdds_52 (by decide) (by decide) (by decide) (by decide) (1, w) (Or.inr (Or.inr ⟨rfl, ⟨hw, rfl⟩, ht0, c⟩)) rfl rfl (Nat.le_of_ble_eq_true rfl) (Nat.le_of_ble_eq_true rfl)

theorem nI_suc1 (z : Nat) : nI (z + 1) - 1 = nI z := by rw [← nI_1]; exact Int32.add_sub_cancel _ _
theorem ref_cnt {S : CT} {v d : Int32} {bc : Nat} (c : s_refusal S v d bc = 0) (hb : bc ≤ 30) : bc < 30 := by
  unfold s_refusal at c
  split at c
  · split at c
    · split at c
      · assumption
      · exact absurd c (by decide)
    · exact absurd c (by decide)
  · exact absurd c (by decide)
set_option maxRecDepth 100000 in
set_option maxHeartbeats 4000000 in
theorem c_X10_print (l : Launch) (G : gT) (o : Nat) (R a : Nat → Nat) (S : CT) (ec ep : Int32) (v d t : Int32) (h r : Nat) (A : Nat → Nat → Nat) (n k : Nat) (T : Nat → CT) (hh : R 3 = h) (hn : n < 8) (hk : k ≤ 8) (hI : CI S) (hst : l.stackTraces = false) : TI l yX10_print cX10_print 4 (some .int) { frames := 7, cells := 3, slots := 18, locals := 120 } [.ref o, .int v, .int d, .int t] G (oW G o R a S ec ep ++ hiW G h r A n k T) (fun r9 (_ : Unit) => (¬ v < 0 ∧ v < nI (vcO S)) ∧ (¬ t < 0 ∧ ¬ 2 < t) ∧ s_refusal S v d (bcO S) = 0 ∧ r9 = nI (bcO S) / 4) (fun _ => oW G o R a (s_bookAdd S v d t (bcO S)) ec ep ++ hiW G h r A ((n + 1) % 8) (min (k + 1) 8) (updT T n S)) (fun (u : Nat) => (u = 0 ∧ ¬ (¬ v < 0 ∧ v < nI (vcO S))) ∨ (u = 1 ∧ (¬ v < 0 ∧ v < nI (vcO S)) ∧ ¬ (¬ t < 0 ∧ ¬ 2 < t)) ∨ (u = 2 ∧ (¬ v < 0 ∧ v < nI (vcO S)) ∧ (¬ t < 0 ∧ ¬ 2 < t) ∧ ¬ s_refusal S v d (bcO S) = 0)) (fun u => if u = 0 then eIOOB else if u = 1 then eIAE else eISE) (fun _ => oW G o R a S ec ep ++ hiW G h r A n k T) := by
  refine jt_i (own := RX10) hst (by decide) rfl (Nat.le_of_ble_eq_true rfl) (fun x hl hC hR hN => ?_)
  subst hl
  refine J_aload_n hC dX10_print_0 0 rfl rfl ?_
  refine J_iload_n hC dX10_print_1 1 rfl rfl ?_
  refine J_callTv hC hR.2 dX10_print_2 wl_X10_139 yi_X10_requireVillage (frt_v (wr := hiW G h r A n k T) (c_X10_requireVillage _ G o R a S ec ep v hI hst) (List.Perm.refl _) (fun _ => List.Perm.refl _) (fun _ => List.Perm.refl _)) rfl rfl 0 10 rfl rfl ⟨Nat.le_of_ble_eq_true rfl, Nat.le_of_ble_eq_true rfl⟩ (Nat.le_of_ble_eq_true rfl) (Nat.le_of_ble_eq_true rfl) (Nat.le_of_ble_eq_true rfl) (Nat.le_of_ble_eq_true rfl) (Nat.le_of_ble_eq_true rfl) (fun _ h9 => ⟨0, Or.inl ⟨rfl, h9⟩, rfl, rfl⟩) (fun u hv0 => ?_)
  refine J_wq (show _ = oW G o R a S ec ep ++ hiW G h r A n k T from rfl) ?_
  refine J_aload_n hC dX10_print_5 0 rfl rfl ?_
  refine J_iload_n hC dX10_print_6 3 rfl rfl ?_
  refine J_iconst (v := 0) hC dX10_print_7 rfl ?_
  refine J_iconst (v := 2) hC dX10_print_8 rfl ?_
  refine J_callTv hC hR.2 dX10_print_9 wl_X10_84 yi_X10_requireRange (frt_v (wr := hiW G h r A n k T) (c_X10_requireRange _ G o R a S ec ep t 0 2 hst) (List.Perm.refl _) (fun _ => List.Perm.refl _) (fun _ => List.Perm.refl _)) rfl rfl 0 10 rfl rfl ⟨Nat.le_of_ble_eq_true rfl, Nat.le_of_ble_eq_true rfl⟩ (Nat.le_of_ble_eq_true rfl) (Nat.le_of_ble_eq_true rfl) (Nat.le_of_ble_eq_true rfl) (Nat.le_of_ble_eq_true rfl) (Nat.le_of_ble_eq_true rfl) (fun _ h9 => ⟨1, Or.inr (Or.inl ⟨rfl, hv0, h9⟩), rfl, rfl⟩) (fun u ht0 => ?_)
  refine J_wq (show _ = oW G o R a S ec ep ++ hiW G h r A n k T from rfl) ?_
  have hb := hI.1.2
  refine J_aload_n hC dX10_print_12 0 rfl rfl ?_
  refine J_get (v := .ref (a 0)) hC wu_X10 rfl dX10_print_13 0 2 (by decide) wf_X10_22 rfl rfl ?_
  refine J_iload_n hC dX10_print_16 1 rfl rfl ?_
  refine J_iload_n hC dX10_print_17 2 rfl rfl ?_
  refine J_callVi hC dX10_print_18 wl_X10_223 yi_X8_refusalToPrint (app_i (hiW G h r A n k T) (cons_i (c_X8_refusalToPrint _ G a S (bcO S) v d hI.1.1 hb))) rfl rfl 1 8 rfl rfl ⟨Nat.le_of_ble_eq_true rfl, Nat.le_of_ble_eq_true rfl⟩ (Nat.le_of_ble_eq_true rfl) (Nat.le_of_ble_eq_true rfl) (Nat.le_of_ble_eq_true rfl) (fun r9 u9 h9 => ?_)
  refine J_wq (show _ = oW G o R a S ec ep ++ hiW G h r A n k T from rfl) ?_
  subst h9
  refine J_if_eq (tgt := 32) hC dX10_print_21 (by decide) (fun c => ?_) (fun c => ?_)
  · refine J_aload_n hC dX10_print_32 0 rfl rfl ?_
    refine J_get (v := .ref h) hC wu_X10 rfl dX10_print_33 0 4 (by decide) wf_X10_32 rfl (by rw [← hh]; rfl) ?_
    refine J_aload_n hC dX10_print_36 0 rfl rfl ?_
    refine J_get (v := .ref (a 0)) hC wu_X10 rfl dX10_print_37 0 2 (by decide) wf_X10_22 rfl rfl ?_
    refine J_callVv hC dX10_print_40 wl_X10_96 yi_X3_remember (fr_v (c_X3_remember (jl x) G h r A n k T a S hn hk) (perm_sw _ (stW G a S) (hiW G h r A n k T)) (fun _ => (perm_sw _ (stW G a S) (hiW G h r A ((n + 1) % 8) (min (k + 1) 8) (updT T n S))).symm)) rfl rfl 23 3 rfl rfl ⟨Nat.le_of_ble_eq_true rfl, Nat.le_of_ble_eq_true rfl⟩ (Nat.le_of_ble_eq_true rfl) (Nat.le_of_ble_eq_true rfl) (Nat.le_of_ble_eq_true rfl) (fun u8 h8 => ?_)
    refine J_wq (show _ = oW G o R a S ec ep ++ hiW G h r A ((n + 1) % 8) (min (k + 1) 8) (updT T n S) from rfl) ?_
    have hb2 := ref_cnt c hb
    refine J_aload_n hC dX10_print_43 0 rfl rfl ?_
    refine J_get (v := .ref (a 0)) hC wu_X10 rfl dX10_print_44 0 2 (by decide) wf_X10_22 rfl rfl ?_
    refine J_get (v := .ref (a 14)) hC wu_X8 rfl dX10_print_47 1 3 (by decide) wf_X10_149 rfl rfl ?_
    refine J_iload_n hC dX10_print_50 1 rfl rfl ?_
    refine J_iload_n hC dX10_print_51 2 rfl rfl ?_
    refine J_iload_n hC dX10_print_52 3 rfl rfl ?_
    refine J_callVv hC dX10_print_53 wl_X10_288 yi_X0_add (app_v (hiW G h r A ((n + 1) % 8) (min (k + 1) 8) (updT T n S)) (cons_v (c_X0_add _ G a S (bcO S) v d t hI.1.1 (by omega)))) rfl rfl 15 0 rfl rfl ⟨Nat.le_of_ble_eq_true rfl, Nat.le_of_ble_eq_true rfl⟩ (Nat.le_of_ble_eq_true rfl) (Nat.le_of_ble_eq_true rfl) (Nat.le_of_ble_eq_true rfl) (fun u7 h7 => ?_)
    refine J_wq (show _ = oW G o R a (s_bookAdd S v d t (bcO S)) ec ep ++ hiW G h r A ((n + 1) % 8) (min (k + 1) 8) (updT T n S) from rfl) ?_
    refine J_aload_n hC dX10_print_56 0 rfl rfl ?_
    refine J_get (v := .ref (a 0)) hC wu_X10 rfl dX10_print_57 0 2 (by decide) wf_X10_22 rfl rfl ?_
    refine J_get (v := .ref (a 14)) hC wu_X8 rfl dX10_print_60 1 3 (by decide) wf_X10_149 rfl rfl ?_
    refine J_get (v := .int (nI (bcO S + 1))) hC wu_X0 rfl dX10_print_63 15 5 (by decide) wf_X10_185 rfl rfl ?_
    refine J_iconst (v := 1) hC dX10_print_66 rfl ?_
    refine J_isub (v := nI (bcO S)) hC dX10_print_67 (nI_suc1 _) ?_
    refine J_iconst (v := 4) hC dX10_print_68 rfl ?_
    refine J_idiv (v := nI (bcO S) / 4) hC dX10_print_69 (by decide) rfl ?_
    exact J_iretT hC hR dX10_print_70 rfl () ⟨hv0, ht0, c, rfl⟩ rfl (Nat.le_of_ble_eq_true rfl) (Nat.le_of_ble_eq_true rfl)
  · exact J_throw0 hC hR.2 gf_ISE gf_names wk_X10_74 wi_IllegalStateException wsL_law_x0 gt_ISE gg_ISE dX10_print_24 dX10_print_27 dX10_print_28 dX10_print_31 (by decide) (by decide) (by decide) (by decide) 2 (Or.inr (Or.inr ⟨rfl, hv0, ht0, c⟩)) rfl rfl (Nat.le_of_ble_eq_true rfl) (Nat.le_of_ble_eq_true rfl)

set_option maxRecDepth 100000 in
set_option maxHeartbeats 4000000 in
theorem c_X10_retract (l : Launch) (G : gT) (o : Nat) (R a : Nat → Nat) (S : CT) (ec ep : Int32) (v : Int32) (h r : Nat) (A : Nat → Nat → Nat) (n k : Nat) (T : Nat → CT) (hh : R 3 = h) (hn : n < 8) (hk : k ≤ 8) (hI : CI S) (hst : l.stackTraces = false) : TI l yX10_retract cX10_retract 2 (some .int) { frames := 7, cells := 2, slots := 12, locals := 104 } [.ref o, .int v] G (oW G o R a S ec ep ++ hiW G h r A n k T) (fun r9 (w : Nat) => (4 * w < bcO S ∧ v = nI w) ∧ s_canPay S w (bcO S) ∧ r9 = s_paidForPage S w (bcO S)) (fun w => oW G o R a (s_takeBack S w (bcO S) (vcO S)) ec ep ++ hiW G h r A ((n + 1) % 8) (min (k + 1) 8) (updT T n S)) (fun (u : Nat × Nat) => (u.1 = 0 ∧ ¬ (¬ v < 0 ∧ v < nI ((bcO S + 4 - 1) / 4))) ∨ (u.1 = 1 ∧ (4 * u.2 < bcO S ∧ v = nI u.2) ∧ ¬ s_canPay S u.2 (bcO S))) (fun u => if u.1 = 0 then eNSE else eISE) (fun _ => oW G o R a S ec ep ++ hiW G h r A n k T) := by
  refine jt_i (own := RX10) hst (by decide) rfl (Nat.le_of_ble_eq_true rfl) (fun x hl hC hR hN => ?_)
  subst hl
  refine J_aload_n hC dX10_retract_0 0 rfl rfl ?_
  refine J_iload_n hC dX10_retract_1 1 rfl rfl ?_
  refine J_callTv hC hR.2 dX10_retract_2 wl_X10_214 yi_X10_requirePage (frt_v (wr := hiW G h r A n k T) (c_X10_requirePage _ G o R a S ec ep v hI hst) (List.Perm.refl _) (fun _ => List.Perm.refl _) (fun _ => List.Perm.refl _)) rfl rfl 0 10 rfl rfl ⟨Nat.le_of_ble_eq_true rfl, Nat.le_of_ble_eq_true rfl⟩ (Nat.le_of_ble_eq_true rfl) (Nat.le_of_ble_eq_true rfl) (Nat.le_of_ble_eq_true rfl) (Nat.le_of_ble_eq_true rfl) (Nat.le_of_ble_eq_true rfl) (fun _ h9 => ⟨(0, 0), Or.inl ⟨rfl, h9⟩, rfl, rfl⟩) (fun u hv0 => ?_)
  refine J_wq (show _ = oW G o R a S ec ep ++ hiW G h r A n k T from rfl) ?_
  have hb := hI.1.2
  obtain ⟨w, hw, hv⟩ := has_nat hv0 (by omega)
  subst hv
  have hw4 : 4 * w < bcO S := by omega
  refine J_aload_n hC dX10_retract_5 0 rfl rfl ?_
  refine J_get (v := .ref (a 0)) hC wu_X10 rfl dX10_retract_6 0 2 (by decide) wf_X10_22 rfl rfl ?_
  refine J_iload_n hC dX10_retract_9 1 rfl rfl ?_
  refine J_callVi hC dX10_retract_10 wl_X10_220 yi_X8_canPayBackPage (app_i (hiW G h r A n k T) (cons_i (c_X8_canPayBackPage _ G a S (bcO S) w hI.1.1 hb (by omega)))) rfl rfl 1 8 rfl rfl ⟨Nat.le_of_ble_eq_true rfl, Nat.le_of_ble_eq_true rfl⟩ (Nat.le_of_ble_eq_true rfl) (Nat.le_of_ble_eq_true rfl) (Nat.le_of_ble_eq_true rfl) (fun r9 u9 h9 => ?_)
  refine J_wq (show _ = oW G o R a S ec ep ++ hiW G h r A n k T from rfl) ?_
  rcases h9 with ⟨rfl, c⟩ | ⟨rfl, c⟩
  · refine J_if_ne (tgt := 24) hC dX10_retract_13 (by decide) (fun _ => ?_) (fun c9 => absurd c9 (by decide))
    refine J_aload_n hC dX10_retract_24 0 rfl rfl ?_
    refine J_get (v := .ref h) hC wu_X10 rfl dX10_retract_25 0 4 (by decide) wf_X10_32 rfl (by rw [← hh]; rfl) ?_
    refine J_aload_n hC dX10_retract_28 0 rfl rfl ?_
    refine J_get (v := .ref (a 0)) hC wu_X10 rfl dX10_retract_29 0 2 (by decide) wf_X10_22 rfl rfl ?_
    refine J_callVv hC dX10_retract_32 wl_X10_96 yi_X3_remember (fr_v (c_X3_remember (jl x) G h r A n k T a S hn hk) (perm_sw _ (stW G a S) (hiW G h r A n k T)) (fun _ => (perm_sw _ (stW G a S) (hiW G h r A ((n + 1) % 8) (min (k + 1) 8) (updT T n S))).symm)) rfl rfl 23 3 rfl rfl ⟨Nat.le_of_ble_eq_true rfl, Nat.le_of_ble_eq_true rfl⟩ (Nat.le_of_ble_eq_true rfl) (Nat.le_of_ble_eq_true rfl) (Nat.le_of_ble_eq_true rfl) (fun u8 h8 => ?_)
    refine J_wq (show _ = oW G o R a S ec ep ++ hiW G h r A ((n + 1) % 8) (min (k + 1) 8) (updT T n S) from rfl) ?_
    refine J_aload_n hC dX10_retract_35 0 rfl rfl ?_
    refine J_get (v := .ref (a 0)) hC wu_X10 rfl dX10_retract_36 0 2 (by decide) wf_X10_22 rfl rfl ?_
    refine J_iload_n hC dX10_retract_39 1 rfl rfl ?_
    refine J_callVi hC dX10_retract_40 wl_X10_291 yi_X8_takeBackPage (app_i (hiW G h r A ((n + 1) % 8) (min (k + 1) 8) (updT T n S)) (cons_i (c_X8_takeBackPage _ G a S (bcO S) (vcO S) w hI.1.1 hb hI.2.1.1 hI.2.1.2 hw4))) rfl rfl 1 8 rfl rfl ⟨Nat.le_of_ble_eq_true rfl, Nat.le_of_ble_eq_true rfl⟩ (Nat.le_of_ble_eq_true rfl) (Nat.le_of_ble_eq_true rfl) (Nat.le_of_ble_eq_true rfl) (fun r7 u7 h7 => ?_)
    refine J_wq (show _ = oW G o R a (s_takeBack S w (bcO S) (vcO S)) ec ep ++ hiW G h r A ((n + 1) % 8) (min (k + 1) 8) (updT T n S) from rfl) ?_
    exact J_iretT hC hR dX10_retract_43 rfl w ⟨⟨hw4, rfl⟩, c, h7⟩ rfl (Nat.le_of_ble_eq_true rfl) (Nat.le_of_ble_eq_true rfl)
  · refine J_if_ne (tgt := 24) hC dX10_retract_13 (by decide) (fun c9 => absurd rfl c9) (fun _ => ?_)
    exact J_throw0 hC hR.2 gf_ISE gf_names wk_X10_74 wi_IllegalStateException wsL_law_x0 gt_ISE gg_ISE dX10_retract_16 dX10_retract_19 dX10_retract_20 dX10_retract_23 (by decide) (by decide) (by decide) (by decide) (1, w) (Or.inr ⟨rfl, ⟨hw4, rfl⟩, c⟩) rfl rfl (Nat.le_of_ble_eq_true rfl) (Nat.le_of_ble_eq_true rfl)

theorem rng_nat1 {v : Int32} {n : Nat} (h : ¬ v < 1 ∧ ¬ nI n < v) (hn : n < 1000000) : ∃ w, 1 ≤ w ∧ w ≤ n ∧ v = nI w := by
  obtain ⟨w, hw, rfl⟩ := rng_nat (v := v) ⟨fun c => h.1 (by
    rw [Int32.lt_iff_toInt_lt] at c ⊢
    rw [show (0 : Int32).toInt = 0 by decide] at c
    rw [show (1 : Int32).toInt = 1 by decide]
    omega), h.2⟩ hn
  refine ⟨w, ?_, hw, rfl⟩
  have h1 := h.1
  rw [Int32.lt_iff_toInt_lt, nI_toInt (by omega), show (1 : Int32).toInt = 1 by decide] at h1
  omega
set_option maxRecDepth 100000 in
set_option maxHeartbeats 4000000 in
theorem c_X10_pass (l : Launch) (G : gT) (o : Nat) (R a : Nat → Nat) (S : CT) (ec ep : Int32) (v : Int32) (h r : Nat) (A : Nat → Nat → Nat) (n k : Nat) (T : Nat → CT) (hh : R 3 = h) (hn : n < 8) (hk : k ≤ 8) (hI : CI S) (hst : l.stackTraces = false) : TI l yX10_pass cX10_pass 3 (some .int) { frames := 7, cells := 1, slots := 6, locals := 104 } [.ref o, .int v] G (oW G o R a S ec ep ++ hiW G h r A n k T) (fun r9 (w : Nat) => (1 ≤ w ∧ w ≤ 200 ∧ v = nI w) ∧ r9 = s_days w S 16 3 - S 16 3) (fun w => oW G o R a (s_days w S) ec ep ++ hiW G h r A ((n + 1) % 8) (min (k + 1) 8) (updT T n S)) (fun (_ : Unit) => ¬ (¬ v < 1 ∧ ¬ nI 200 < v)) (fun _ => eIAE) (fun _ => oW G o R a S ec ep ++ hiW G h r A n k T) := by
  refine jt_i (own := RX10) hst (by decide) rfl (Nat.le_of_ble_eq_true rfl) (fun x hl hC hR hN => ?_)
  subst hl
  refine J_aload_n hC dX10_pass_0 0 rfl rfl ?_
  refine J_iload_n hC dX10_pass_1 1 rfl rfl ?_
  refine J_iconst (v := 1) hC dX10_pass_2 rfl ?_
  refine J_sipush (v := nI 200) hC dX10_pass_3 rfl ?_
  refine J_callTv hC hR.2 dX10_pass_6 wl_X10_84 yi_X10_requireRange (frt_v (wr := hiW G h r A n k T) (c_X10_requireRange _ G o R a S ec ep v 1 (nI 200) hst) (List.Perm.refl _) (fun _ => List.Perm.refl _) (fun _ => List.Perm.refl _)) rfl rfl 0 10 rfl rfl ⟨Nat.le_of_ble_eq_true rfl, Nat.le_of_ble_eq_true rfl⟩ (Nat.le_of_ble_eq_true rfl) (Nat.le_of_ble_eq_true rfl) (Nat.le_of_ble_eq_true rfl) (Nat.le_of_ble_eq_true rfl) (Nat.le_of_ble_eq_true rfl) (fun _ h9 => ⟨(), h9, rfl, rfl⟩) (fun u hv0 => ?_)
  refine J_wq (show _ = oW G o R a S ec ep ++ hiW G h r A n k T from rfl) ?_
  obtain ⟨w, hw1, hw, hv⟩ := rng_nat1 hv0 (by decide)
  subst hv
  refine J_aload_n hC dX10_pass_9 0 rfl rfl ?_
  refine J_get (v := .ref h) hC wu_X10 rfl dX10_pass_10 0 4 (by decide) wf_X10_32 rfl (by rw [← hh]; rfl) ?_
  refine J_aload_n hC dX10_pass_13 0 rfl rfl ?_
  refine J_get (v := .ref (a 0)) hC wu_X10 rfl dX10_pass_14 0 2 (by decide) wf_X10_22 rfl rfl ?_
  refine J_callVv hC dX10_pass_17 wl_X10_96 yi_X3_remember (fr_v (c_X3_remember (jl x) G h r A n k T a S hn hk) (perm_sw _ (stW G a S) (hiW G h r A n k T)) (fun _ => (perm_sw _ (stW G a S) (hiW G h r A ((n + 1) % 8) (min (k + 1) 8) (updT T n S))).symm)) rfl rfl 23 3 rfl rfl ⟨Nat.le_of_ble_eq_true rfl, Nat.le_of_ble_eq_true rfl⟩ (Nat.le_of_ble_eq_true rfl) (Nat.le_of_ble_eq_true rfl) (Nat.le_of_ble_eq_true rfl) (fun u8 h8 => ?_)
  refine J_wq (show _ = oW G o R a S ec ep ++ hiW G h r A ((n + 1) % 8) (min (k + 1) 8) (updT T n S) from rfl) ?_
  refine J_aload_n hC dX10_pass_20 0 rfl rfl ?_
  refine J_get (v := .ref (a 0)) hC wu_X10 rfl dX10_pass_21 0 2 (by decide) wf_X10_22 rfl rfl ?_
  refine J_get (v := .int (S 16 3)) hC wu_X8 rfl dX10_pass_24 1 8 (by decide) wf_X10_252 rfl rfl ?_
  refine J_istore_n hC [(2, .int (S 16 3)), (0, .ref o), (1, .int (nI w))] dX10_pass_27 rfl (by decide) rfl ?_
  refine J_aload_n hC dX10_pass_28 1 rfl rfl ?_
  refine J_get (v := .ref (a 0)) hC wu_X10 rfl dX10_pass_29 0 2 (by decide) wf_X10_22 rfl rfl ?_
  refine J_iload_n hC dX10_pass_32 2 rfl rfl ?_
  refine J_callVv hC dX10_pass_33 wl_X10_294 yi_X8_letDaysPass (app_v (hiW G h r A ((n + 1) % 8) (min (k + 1) 8) (updT T n S)) (cons_v (c_X8_letDaysPass _ G a S (bcO S) (vcO S) (fcO S) (mcO S) w hI.1.1 hI.1.2 hI.2.1.1 hI.2.1.2 hI.2.2.1.1 hI.2.2.1.2 hI.2.2.2.1 hI.2.2.2.2 (by omega)))) rfl rfl 1 8 rfl rfl ⟨Nat.le_of_ble_eq_true rfl, Nat.le_of_ble_eq_true rfl⟩ (Nat.le_of_ble_eq_true rfl) (Nat.le_of_ble_eq_true rfl) (Nat.le_of_ble_eq_true rfl) (fun u7 h7 => ?_)
  refine J_wq (show _ = oW G o R a (s_days w S) ec ep ++ hiW G h r A ((n + 1) % 8) (min (k + 1) 8) (updT T n S) from rfl) ?_
  refine J_aload_n hC dX10_pass_36 1 rfl rfl ?_
  refine J_get (v := .ref (a 0)) hC wu_X10 rfl dX10_pass_37 0 2 (by decide) wf_X10_22 rfl rfl ?_
  refine J_get (v := .int ((s_days w S) 16 3)) hC wu_X8 rfl dX10_pass_40 1 8 (by decide) wf_X10_252 rfl rfl ?_
  refine J_iload_n hC dX10_pass_43 0 rfl rfl ?_
  refine J_isub (v := s_days w S 16 3 - S 16 3) hC dX10_pass_44 rfl ?_
  exact J_iretT hC hR dX10_pass_45 rfl w ⟨⟨hw1, hw, rfl⟩, rfl⟩ rfl (Nat.le_of_ble_eq_true rfl) (Nat.le_of_ble_eq_true rfl)


set_option maxRecDepth 100000 in
set_option maxHeartbeats 4000000 in
theorem c_X10_pageOf (l : Launch) (G : gT) (o : Nat) (R a : Nat → Nat) (S : CT) (ec ep : Int32) (v d : Int32) (hI : CI S) (hst : l.stackTraces = false) : TI l yX10_pageOf cX10_pageOf 3 (some .int) { frames := 8, cells := 2, slots := 12, locals := 134 } [.ref o, .int v, .int d] G (oW G o R a S ec ep) (fun r (w : Nat) => (¬ v < 0 ∧ v < nI (vcO S)) ∧ w < bcO S ∧ s_placeOf S v d (bcO S) = nI w ∧ r = nI w / 4) (fun _ => oW G o R a S ec ep) (fun (u : Nat) => (u = 0 ∧ ¬ (¬ v < 0 ∧ v < nI (vcO S))) ∨ (u = 1 ∧ (¬ v < 0 ∧ v < nI (vcO S)) ∧ s_placeOf S v d (bcO S) = -1)) (fun u => if u = 0 then eIOOB else eNSE) (fun _ => oW G o R a S ec ep) := by
  refine jt_i (own := RX10) hst (by decide) rfl (Nat.le_of_ble_eq_true rfl) (fun x hl hC hR hN => ?_)
  subst hl
  refine J_aload_n hC dX10_pageOf_0 0 rfl rfl ?_
  refine J_iload_n hC dX10_pageOf_1 1 rfl rfl ?_
  refine J_iload_n hC dX10_pageOf_2 2 rfl rfl ?_
  refine J_callTi hC hR.2 dX10_pageOf_3 wl_X10_192 yi_X10_requireForecast (c_X10_requireForecast _ G o R a S ec ep v d hI hst) rfl rfl 0 10 rfl rfl ⟨Nat.le_of_ble_eq_true rfl, Nat.le_of_ble_eq_true rfl⟩ (Nat.le_of_ble_eq_true rfl) (Nat.le_of_ble_eq_true rfl) (Nat.le_of_ble_eq_true rfl) (Nat.le_of_ble_eq_true rfl) (Nat.le_of_ble_eq_true rfl) (fun u h => ⟨u, h, rfl, rfl⟩) (fun r w h => ?_)
  refine J_wq (show _ = oW G o R a S ec ep from rfl) ?_
  obtain ⟨h1, h2, h3, h4⟩ := h
  subst h3
  refine J_iconst (v := 4) hC dX10_pageOf_6 rfl ?_
  refine J_idiv (v := nI w / 4) hC dX10_pageOf_7 (by decide) rfl ?_
  exact J_iretT hC hR dX10_pageOf_8 rfl w ⟨h1, h2, h4, rfl⟩ rfl (Nat.le_of_ble_eq_true rfl) (Nat.le_of_ble_eq_true rfl)

theorem io_le {i w : Nat} (h : i ≤ w) : w + 1 - i = (w + 1 - (i + 1)) + 1 := by omega
def s_seeds (n : Nat) (sd : Int32) : Int32 := fo (fun _ z => s_seed z) 0 n sd

theorem rng_nat {v : Int32} {n : Nat} (h : ¬ v < 0 ∧ ¬ nI n < v) (hn : n < 1000000) : ∃ w, w ≤ n ∧ v = nI w := by
  obtain ⟨w, hw, hv⟩ := has_nat (n := n + 1) ⟨h.1, by
    have h2 := h.2
    rw [Int32.lt_iff_toInt_lt] at h2 ⊢
    rw [nI_toInt (by omega)] at h2 ⊢
    omega⟩ (by omega)
  exact ⟨w, by omega, hv⟩


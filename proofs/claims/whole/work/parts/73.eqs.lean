theorem us82 (M : CT) (w : Int32) (j : Nat) (h : j ≠ 2) : us M 8 2 w 8 j = M 8 j := by
  show (if (8 : Nat) = 8 then upd (M 8) 2 w else M 8) j = M 8 j
  rw [if_pos rfl]
  exact pk_un h
theorem us82r (M : CT) (w : Int32) (r : Nat) (h : r ≠ 8) : us M 8 2 w r = M r := by
  show (if r = 8 then upd (M 8) 2 w else M r) = M r
  rw [if_neg h]
theorem us822 (M : CT) (w : Int32) : us M 8 2 w 8 2 = w := by
  show (if (8 : Nat) = 8 then upd (M 8) 2 w else M 8) 2 = w
  rw [if_pos rfl]
  exact pk_us
theorem dB_succ (n : Nat) : dB n ≤ dB (n + 1) := by unfold dB; omega
/-- a question changes nothing -/
theorem REL.next {n : Nat} {z : OS} {M M2 : CT} (h : REL n z M) (h0 : M2 0 = M 0) (h3 : M2 3 = M 3) (h4 : M2 4 = M 4) (h5 : M2 5 = M 5) (h6 : M2 6 = M 6) (h7 : M2 7 = M 7) (h8 : ∀ j, j ≠ 2 → M2 8 j = M 8 j) : REL (n + 1) z M2 := by
  obtain ⟨a1, ⟨un, u0, b1, b2, b3, b4, b5, b6, b7⟩, a3, a4, a5, a6, a7⟩ := h
  refine ⟨by rw [h0]; exact a1.mono (dB_succ n), ⟨un, u0, by rw [h8 0 (by decide)]; exact b1, b2, by rw [h8 1 (by decide)]; exact b3, b4, b5, b6, fun i hi => by rw [h3]; exact (b7 i hi).mono (dB_succ n)⟩, fun w hw => by rw [h5, h4]; exact ⟨(a3 w hw).1, fun hz => ((a3 w hw).2 hz).mono (dB_succ n)⟩, ?_, ?_, by rw [h8 9 (by decide)]; exact a6, by rw [h8 10 (by decide)]; exact a7⟩
  · rw [h8 3 (by decide), h6]; exact a4
  · rw [h8 11 (by decide), h7]; exact a5
theorem REL.thr {n : Nat} {z : OS} {M : CT} (h : REL n z M) (w : Int32) : REL (n + 1) z (us M 8 2 w) := h.next (us82r M w 0 (by decide)) (us82r M w 3 (by decide)) (us82r M w 4 (by decide)) (us82r M w 5 (by decide)) (us82r M w 6 (by decide)) (us82r M w 7 (by decide)) (us82 M w)
theorem REL.mN {n : Nat} {z : OS} {M : CT} (h : REL n z M) (hc : n ≤ 600) : mN (M 0) (m_bc (M 0)) (m_vc (M 0)) := by
  sorry
set_option maxHeartbeats 4000000 in
theorem eq_appendInput {c : Nat} {z : OS} {M : CT} (h : REL c z M) (hc : c ≤ 600) {f : Nat → Int64} (z1 z2 z3 z4 z5 : Int32) {r : Int32} {v : (Int32 × Unit) ⊕ Unit} {r2 : Int32} {M2 : CT} (hv : wP (fun _ => 1) (fun r9 (_ : Unit) => (zi z).2 + 20 ≤ 600 ∧ r9 = nI ((zi z).2 + 20)) (fun (_ : Unit) => ¬ (zi z).2 + 20 ≤ 600) r v) (h2 : (fun r (u : CT) => (((cl (M 8 3)) + 20 ≤ 600) ∧ nI ((cl (M 8 3)) + 20) = r ∧ (q_ai z1 z2 z3 z4 z5 (cl (M 8 3)) (us M 8 2 0)) = u) ∨ ((600 < (cl (M 8 3)) + 20) ∧ 0 = r ∧ (us M 8 2 1) = u)) r2 M2) : M2 8 2 = r ∧ (r = 0 → fW f v 0 = r2.toInt64) ∧ REL (c + 1) (zW (fun w => zIn z (b_app z1 z2 z3 z4 z5 (zi z))) (fun _ => z) v) M2 := by
  sorry
set_option maxHeartbeats 4000000 in
theorem eq_truncateInput {c : Nat} {z : OS} {M : CT} (h : REL c z M) (hc : c ≤ 600) {f : Nat → Int64} (z1 : Int32) {r : Int32} {v : (Int32 × Nat) ⊕ Unit} {r2 : Int32} {M2 : CT} (hv : wP (fun _ => 1) (fun r9 (w : Nat) => w ≤ (zi z).2 ∧ z1 = nI w ∧ r9 = nI w) (fun (_ : Unit) => ¬ (¬ z1 < 0 ∧ ¬ nI (zi z).2 < z1)) r v) (h2 : (fun r (u : CT) => ((inr z1 ((cl (M 8 3)) + 1)) ∧ z1 = r ∧ (us (us M 8 2 0) 8 3 z1) = u) ∨ ((¬ inr z1 ((cl (M 8 3)) + 1)) ∧ 0 = r ∧ (us M 8 2 1) = u)) r2 M2) : M2 8 2 = r ∧ (r = 0 → fW f v 0 = r2.toInt64) ∧ REL (c + 1) (zW (fun w => zIn z ((zi z).1, w)) (fun _ => z) v) M2 := by
  sorry
set_option maxHeartbeats 4000000 in
theorem eq_load {c : Nat} {z : OS} {M : CT} (h : REL c z M) (hc : c ≤ 600) {f : Nat → Int64} (t : PS CT) (ht : t = ztx z) {r : Int32} {v : (Int32 × Unit) ⊕ Unit} {r2 : Int32} {M2 : CT} (hv : wP (fun _ => 1) (fun r9 (_ : Unit) => (t).2.2.1 = 0 ∧ r9 = (t).1 16 9) (fun (_ : Unit) => ¬ (t).2.2.1 = 0) r v) (h2 : (fun r (u : CT) => (((p_all (M 6) (cl (M 8 3))).2.2.1 = 0) ∧ (p_all (M 6) (cl (M 8 3))).1 6 = r ∧ (q_ld M (cl (M 8 3)) (cl (M 8 0)) (cl (M 8 1))) = u) ∨ ((¬ (p_all (M 6) (cl (M 8 3))).2.2.1 = 0) ∧ 0 = r ∧ (us (q_rd M (cl (M 8 3))) 8 2 1) = u)) r2 M2) : M2 8 2 = r ∧ (r = 0 → fW f v 0 = r2.toInt64) ∧ REL (c + 1) (zW (fun w => zLd z t) (fun _ => zLf z t) v) M2 := by
  sorry
set_option maxHeartbeats 4000000 in
theorem eq_errorCode {c : Nat} {z : OS} {M : CT} (h : REL c z M) (hc : c ≤ 600) {r r2 : Int32} (h1 : (fun r (_ : Unit) => r = (zc z)) r ()) (h2 : (fun r (_ : Unit) => r = M 8 9) r2 ()) : r = r2 := by
  sorry
set_option maxHeartbeats 4000000 in
theorem eq_errorPosition {c : Nat} {z : OS} {M : CT} (h : REL c z M) (hc : c ≤ 600) {r r2 : Int32} (h1 : (fun r (_ : Unit) => r = (zp z)) r ()) (h2 : (fun r (_ : Unit) => r = M 8 10) r2 ()) : r = r2 := by
  sorry
set_option maxHeartbeats 4000000 in
theorem eq_day {c : Nat} {z : OS} {M : CT} (h : REL c z M) (hc : c ≤ 600) {r r2 : Int32} (h1 : (fun r (_ : Unit) => r = (zS z) 16 0) r ()) (h2 : (fun r (_ : Unit) => r = M 0 5) r2 ()) : r = r2 := by
  sorry
set_option maxHeartbeats 4000000 in
theorem eq_seed {c : Nat} {z : OS} {M : CT} (h : REL c z M) (hc : c ≤ 600) {r r2 : Int32} (h1 : (fun r (_ : Unit) => r = (zS z) 16 11) r ()) (h2 : (fun r (_ : Unit) => r = M 0 0) r2 ()) : r = r2 := by
  sorry
set_option maxHeartbeats 4000000 in
theorem eq_coins {c : Nat} {z : OS} {M : CT} (h : REL c z M) (hc : c ≤ 600) {r r2 : Int32} (h1 : (fun r (_ : Unit) => r = (zS z) 16 1) r ()) (h2 : (fun r (_ : Unit) => r = M 0 4) r2 ()) : r = r2 := by
  sorry
set_option maxHeartbeats 4000000 in
theorem eq_villageCount {c : Nat} {z : OS} {M : CT} (h : REL c z M) (hc : c ≤ 600) {r r2 : Int32} (h1 : (fun r (_ : Unit) => r = (zS z) 16 9) r ()) (h2 : (fun r (_ : Unit) => r = M 0 6) r2 ()) : r = r2 := by
  sorry
set_option maxHeartbeats 4000000 in
theorem eq_fairCount {c : Nat} {z : OS} {M : CT} (h : REL c z M) (hc : c ≤ 600) {r r2 : Int32} (h1 : (fun r (_ : Unit) => r = (zS z) 16 10) r ()) (h2 : (fun r (_ : Unit) => r = M 0 7) r2 ()) : r = r2 := by
  sorry
set_option maxHeartbeats 4000000 in
theorem eq_findName {c : Nat} {z : OS} {M : CT} (h : REL c z M) (hc : c ≤ 600) {r r2 : Int32} (h1 : (fun r9 (_ : Unit) => r9 = s_find (zS z) (b_nm (zfi z) (zi z).2 0 (zi z).2)) r ()) (h2 : (fun r (_ : Unit) => r = m_findName (M 0) (M 6) (cl (M 8 3)) (m_vc (M 0)) (m_fc (M 0))) r2 ()) : r = r2 := by
  sorry
set_option maxHeartbeats 4000000 in
theorem eq_peopleOf {c : Nat} {z : OS} {M : CT} (h : REL c z M) (hc : c ≤ 600) {f : Nat → Int64} (z1 : Int32) {r : Int32} {v : (Int32 × Nat) ⊕ Unit} {r2 : Int32} {M2 : CT} (hv : wP (fun _ => 1) (fun r (w : Nat) => w < vcO (zS z) ∧ z1 = nI w ∧ r = (zS z) 1 w) (fun (_ : Unit) => ¬ (¬ z1 < 0 ∧ z1 < nI (vcO (zS z)))) r v) (h2 : (fun r (u : CT) => ((inr z1 (m_vc (M 0))) ∧ M 0 (25 + 3 * cl z1) = r ∧ (us M 8 2 0) = u) ∨ ((¬ inr z1 (m_vc (M 0))) ∧ 0 = r ∧ (us M 8 2 1) = u)) r2 M2) : M2 8 2 = r ∧ (r = 0 → fW f v 0 = r2.toInt64) ∧ REL (c + 1) (zW (fun w => z) (fun _ => z) v) M2 := by
  sorry
set_option maxHeartbeats 4000000 in
theorem eq_trustOf {c : Nat} {z : OS} {M : CT} (h : REL c z M) (hc : c ≤ 600) {f : Nat → Int64} (z1 : Int32) {r : Int32} {v : (Int32 × Nat) ⊕ Unit} {r2 : Int32} {M2 : CT} (hv : wP (fun _ => 1) (fun r (w : Nat) => w < vcO (zS z) ∧ z1 = nI w ∧ r = (zS z) 2 w) (fun (_ : Unit) => ¬ (¬ z1 < 0 ∧ z1 < nI (vcO (zS z)))) r v) (h2 : (fun r (u : CT) => ((inr z1 (m_vc (M 0))) ∧ M 0 (26 + 3 * cl z1) = r ∧ (us M 8 2 0) = u) ∨ ((¬ inr z1 (m_vc (M 0))) ∧ 0 = r ∧ (us M 8 2 1) = u)) r2 M2) : M2 8 2 = r ∧ (r = 0 → fW f v 0 = r2.toInt64) ∧ REL (c + 1) (zW (fun w => z) (fun _ => z) v) M2 := by
  sorry
set_option maxHeartbeats 4000000 in
theorem eq_forecastsFor {c : Nat} {z : OS} {M : CT} (h : REL c z M) (hc : c ≤ 600) {f : Nat → Int64} (z1 : Int32) {r : Int32} {v : (Int32 × Unit) ⊕ Unit} {r2 : Int32} {M2 : CT} (hv : wP (fun _ => 1) (fun r (_ : Unit) => (¬ z1 < 0 ∧ z1 < nI (vcO (zS z))) ∧ r = s_countFor (zS z) z1 (bcO (zS z))) (fun (_ : Unit) => ¬ (¬ z1 < 0 ∧ z1 < nI (vcO (zS z)))) r v) (h2 : (fun r (u : CT) => ((inr z1 (m_vc (M 0))) ∧ fo (fun k s => if M 0 (72 + 5 * k) = z1 then s + 1 else s) 0 (m_bc (M 0)) 0 = r ∧ (us M 8 2 0) = u) ∨ ((¬ inr z1 (m_vc (M 0))) ∧ 0 = r ∧ (us M 8 2 1) = u)) r2 M2) : M2 8 2 = r ∧ (r = 0 → fW f v 0 = r2.toInt64) ∧ REL (c + 1) (zW (fun w => z) (fun _ => z) v) M2 := by
  sorry
set_option maxHeartbeats 4000000 in
theorem eq_fairVillage {c : Nat} {z : OS} {M : CT} (h : REL c z M) (hc : c ≤ 600) {f : Nat → Int64} (z1 : Int32) {r : Int32} {v : (Int32 × Nat) ⊕ Unit} {r2 : Int32} {M2 : CT} (hv : wP (fun _ => 1) (fun r (w : Nat) => w < fcO (zS z) ∧ z1 = nI w ∧ r = (zS z) 4 w) (fun (_ : Unit) => ¬ (¬ z1 < 0 ∧ z1 < nI (fcO (zS z)))) r v) (h2 : (fun r (u : CT) => ((inr z1 (m_fc (M 0))) ∧ M 0 (43 + 5 * cl z1) = r ∧ (us M 8 2 0) = u) ∨ ((¬ inr z1 (m_fc (M 0))) ∧ 0 = r ∧ (us M 8 2 1) = u)) r2 M2) : M2 8 2 = r ∧ (r = 0 → fW f v 0 = r2.toInt64) ∧ REL (c + 1) (zW (fun w => z) (fun _ => z) v) M2 := by
  sorry
set_option maxHeartbeats 4000000 in
theorem eq_periodOf {c : Nat} {z : OS} {M : CT} (h : REL c z M) (hc : c ≤ 600) {f : Nat → Int64} (z1 : Int32) {r : Int32} {v : (Int32 × Nat) ⊕ Unit} {r2 : Int32} {M2 : CT} (hv : wP (fun _ => 1) (fun r (w : Nat) => w < fcO (zS z) ∧ z1 = nI w ∧ r = (zS z) 5 w) (fun (_ : Unit) => ¬ (¬ z1 < 0 ∧ z1 < nI (fcO (zS z)))) r v) (h2 : (fun r (u : CT) => ((inr z1 (m_fc (M 0))) ∧ M 0 (44 + 5 * cl z1) = r ∧ (us M 8 2 0) = u) ∨ ((¬ inr z1 (m_fc (M 0))) ∧ 0 = r ∧ (us M 8 2 1) = u)) r2 M2) : M2 8 2 = r ∧ (r = 0 → fW f v 0 = r2.toInt64) ∧ REL (c + 1) (zW (fun w => z) (fun _ => z) v) M2 := by
  sorry
set_option maxHeartbeats 4000000 in
theorem eq_stockOf {c : Nat} {z : OS} {M : CT} (h : REL c z M) (hc : c ≤ 600) {f : Nat → Int64} (z1 : Int32) {r : Int32} {v : (Int32 × Nat) ⊕ Unit} {r2 : Int32} {M2 : CT} (hv : wP (fun _ => 1) (fun r (w : Nat) => w < fcO (zS z) ∧ z1 = nI w ∧ r = (zS z) 6 w) (fun (_ : Unit) => ¬ (¬ z1 < 0 ∧ z1 < nI (fcO (zS z)))) r v) (h2 : (fun r (u : CT) => ((inr z1 (m_fc (M 0))) ∧ M 0 (45 + 5 * cl z1) = r ∧ (us M 8 2 0) = u) ∨ ((¬ inr z1 (m_fc (M 0))) ∧ 0 = r ∧ (us M 8 2 1) = u)) r2 M2) : M2 8 2 = r ∧ (r = 0 → fW f v 0 = r2.toInt64) ∧ REL (c + 1) (zW (fun w => z) (fun _ => z) v) M2 := by
  sorry
set_option maxHeartbeats 4000000 in
theorem eq_priceOf {c : Nat} {z : OS} {M : CT} (h : REL c z M) (hc : c ≤ 600) {f : Nat → Int64} (z1 : Int32) {r : Int32} {v : (Int32 × Nat) ⊕ Unit} {r2 : Int32} {M2 : CT} (hv : wP (fun _ => 1) (fun r (w : Nat) => w < fcO (zS z) ∧ z1 = nI w ∧ r = (zS z) 7 w) (fun (_ : Unit) => ¬ (¬ z1 < 0 ∧ z1 < nI (fcO (zS z)))) r v) (h2 : (fun r (u : CT) => ((inr z1 (m_fc (M 0))) ∧ M 0 (46 + 5 * cl z1) = r ∧ (us M 8 2 0) = u) ∨ ((¬ inr z1 (m_fc (M 0))) ∧ 0 = r ∧ (us M 8 2 1) = u)) r2 M2) : M2 8 2 = r ∧ (r = 0 → fW f v 0 = r2.toInt64) ∧ REL (c + 1) (zW (fun w => z) (fun _ => z) v) M2 := by
  sorry
set_option maxHeartbeats 4000000 in
theorem eq_daysUntilFair {c : Nat} {z : OS} {M : CT} (h : REL c z M) (hc : c ≤ 600) {f : Nat → Int64} (z1 : Int32) {r : Int32} {v : (Int32 × Nat) ⊕ Unit} {r2 : Int32} {M2 : CT} (hv : wP (fun _ => 1) (fun r (w : Nat) => w < fcO (zS z) ∧ z1 = nI w ∧ r = s_daysUntil (zS z) w ((zS z) 16 0)) (fun (_ : Unit) => ¬ (¬ z1 < 0 ∧ z1 < nI (fcO (zS z)))) r v) (h2 : (fun r (u : CT) => ((inr z1 (m_fc (M 0))) ∧ nI (m_per (M 0) (cl z1) - ((cl (M 0 5)) + cl z1) % m_per (M 0) (cl z1)) = r ∧ (us M 8 2 0) = u) ∨ ((¬ inr z1 (m_fc (M 0))) ∧ 0 = r ∧ (us M 8 2 1) = u)) r2 M2) : M2 8 2 = r ∧ (r = 0 → fW f v 0 = r2.toInt64) ∧ REL (c + 1) (zW (fun w => z) (fun _ => z) v) M2 := by
  sorry
set_option maxHeartbeats 4000000 in
theorem eq_oddsOf {c : Nat} {z : OS} {M : CT} (h : REL c z M) (hc : c ≤ 600) {f : Nat → Int64} (z1 : Int32) {r : Int32} {v : (Int32 × Nat) ⊕ Unit} {r2 : Int32} {M2 : CT} (hv : wP (fun _ => 1) (fun r (w : Nat) => w < 3 ∧ z1 = nI w ∧ r = (zS z) 8 w) (fun (_ : Unit) => ¬ (¬ z1 < 0 ∧ ¬ 2 < z1)) r v) (h2 : (fun r (u : CT) => ((inr z1 3) ∧ M 0 (1 + cl z1) = r ∧ (us M 8 2 0) = u) ∨ ((¬ inr z1 3) ∧ 0 = r ∧ (us M 8 2 1) = u)) r2 M2) : M2 8 2 = r ∧ (r = 0 → fW f v 0 = r2.toInt64) ∧ REL (c + 1) (zW (fun w => z) (fun _ => z) v) M2 := by
  sorry
set_option maxHeartbeats 4000000 in
theorem eq_chanceOf {c : Nat} {z : OS} {M : CT} (h : REL c z M) (hc : c ≤ 600) (z1 : Int32) {r : Int32} {v : (UInt64 × Nat) ⊕ Unit} {r2 : UInt64} {M2 : CT} (hv : wP (fun _ => 1) (fun r9 (w : Nat) => (w < 3 ∧ z1 = nI w) ∧ r9 = fd_ratio ((zS z) 8 w) (s_sumO (zS z))) (fun (_ : Unit) => ¬ (¬ z1 < 0 ∧ ¬ 2 < z1)) r v) (h2 : (fun r9 (u : CT) => ((inr z1 3) ∧ r9 = FP.ddiv (FP.i2d (M 0 (1 + cl z1))) (FP.i2d (m_allOdds (M 0))) ∧ us M 8 2 0 = u) ∨ (¬ (inr z1 3) ∧ us M 8 2 1 = u)) r2 M2) : M2 8 2 = r ∧ (r = 0 → ∃ s, v = .inl (r2, s)) ∧ REL (c + 1) (zW (fun w => z) (fun _ => z) v) M2 := by
  sorry
set_option maxHeartbeats 4000000 in
theorem eq_drawnThisYear {c : Nat} {z : OS} {M : CT} (h : REL c z M) (hc : c ≤ 600) {f : Nat → Int64} (z1 : Int32) {r : Int32} {v : (Int32 × Nat) ⊕ Unit} {r2 : Int32} {M2 : CT} (hv : wP (fun _ => 1) (fun r (w : Nat) => w < 3 ∧ z1 = nI w ∧ r = (zS z) 9 w) (fun (_ : Unit) => ¬ (¬ z1 < 0 ∧ ¬ 2 < z1)) r v) (h2 : (fun r (u : CT) => ((inr z1 3) ∧ M 0 (17 + cl z1) = r ∧ (us M 8 2 0) = u) ∨ ((¬ inr z1 3) ∧ 0 = r ∧ (us M 8 2 1) = u)) r2 M2) : M2 8 2 = r ∧ (r = 0 → fW f v 0 = r2.toInt64) ∧ REL (c + 1) (zW (fun w => z) (fun _ => z) v) M2 := by
  sorry
set_option maxHeartbeats 4000000 in
theorem eq_forecastCount {c : Nat} {z : OS} {M : CT} (h : REL c z M) (hc : c ≤ 600) {r r2 : Int32} (h1 : (fun r (_ : Unit) => r = (zS z) 16 12) r ()) (h2 : (fun r (_ : Unit) => r = M 0 8) r2 ()) : r = r2 := by
  sorry
set_option maxHeartbeats 4000000 in
theorem eq_hasForecast {c : Nat} {z : OS} {M : CT} (h : REL c z M) (hc : c ≤ 600) {f : Nat → Int64} (z1 z2 : Int32) {r : Int32} {v : (Int32 × Unit) ⊕ Unit} {r2 : Int32} {M2 : CT} (hv : wP (fun _ => 1) (fun r (_ : Unit) => (¬ z1 < 0 ∧ z1 < nI (vcO (zS z))) ∧ ((r = 1 ∧ ¬ s_placeOf (zS z) z1 z2 (bcO (zS z)) = -1) ∨ (r = 0 ∧ s_placeOf (zS z) z1 z2 (bcO (zS z)) = -1))) (fun (_ : Unit) => ¬ (¬ z1 < 0 ∧ z1 < nI (vcO (zS z)))) r v) (h2 : (fun r (u : CT) => ((inr z1 (m_vc (M 0)) ∧ m_find (M 0) z1 z2 (m_bc (M 0)) = -1) ∧ 0 = r ∧ (us M 8 2 0) = u) ∨ ((inr z1 (m_vc (M 0)) ∧ ∃ k, k < (m_bc (M 0)) ∧ m_find (M 0) z1 z2 (m_bc (M 0)) = nI k) ∧ 1 = r ∧ (us M 8 2 0) = u) ∨ ((¬ inr z1 (m_vc (M 0))) ∧ 0 = r ∧ (us M 8 2 1) = u)) r2 M2) : M2 8 2 = r ∧ (r = 0 → fWb f v 0 = if r2 = 0 then 0 else 1) ∧ REL (c + 1) (zW (fun w => z) (fun _ => z) v) M2 := by
  sorry
set_option maxHeartbeats 4000000 in
theorem eq_weatherOf {c : Nat} {z : OS} {M : CT} (h : REL c z M) (hc : c ≤ 600) {f : Nat → Int64} (z1 z2 : Int32) {r : Int32} {v : (Int32 × Nat) ⊕ Nat} {r2 : Int32} {M2 : CT} (hv : wP (fun u => if ((fun u => if u = 0 then eIOOB else eNSE) u) = eIOOB then 1 else 2) (fun r (w : Nat) => (¬ z1 < 0 ∧ z1 < nI (vcO (zS z))) ∧ w < bcO (zS z) ∧ s_placeOf (zS z) z1 z2 (bcO (zS z)) = nI w ∧ r = (zS z) 12 w) (fun (u : Nat) => (u = 0 ∧ ¬ (¬ z1 < 0 ∧ z1 < nI (vcO (zS z)))) ∨ (u = 1 ∧ (¬ z1 < 0 ∧ z1 < nI (vcO (zS z))) ∧ s_placeOf (zS z) z1 z2 (bcO (zS z)) = -1)) r v) (h2 : (fun r (u : CT) => ((inr z1 (m_vc (M 0)) ∧ ∃ k, k < (m_bc (M 0)) ∧ m_find (M 0) z1 z2 (m_bc (M 0)) = nI k) ∧ M 0 (74 + 5 * cl (m_find (M 0) z1 z2 (m_bc (M 0)))) = r ∧ (us M 8 2 0) = u) ∨ ((¬ inr z1 (m_vc (M 0))) ∧ 0 = r ∧ (us M 8 2 1) = u) ∨ ((inr z1 (m_vc (M 0)) ∧ m_find (M 0) z1 z2 (m_bc (M 0)) = -1) ∧ 0 = r ∧ (us M 8 2 2) = u)) r2 M2) : M2 8 2 = r ∧ (r = 0 → fW f v 0 = r2.toInt64) ∧ REL (c + 1) (zW (fun w => z) (fun _ => z) v) M2 := by
  sorry
set_option maxHeartbeats 4000000 in
theorem eq_soldOf {c : Nat} {z : OS} {M : CT} (h : REL c z M) (hc : c ≤ 600) {f : Nat → Int64} (z1 z2 : Int32) {r : Int32} {v : (Int32 × Nat) ⊕ Nat} {r2 : Int32} {M2 : CT} (hv : wP (fun u => if ((fun u => if u = 0 then eIOOB else eNSE) u) = eIOOB then 1 else 2) (fun r (w : Nat) => (¬ z1 < 0 ∧ z1 < nI (vcO (zS z))) ∧ w < bcO (zS z) ∧ s_placeOf (zS z) z1 z2 (bcO (zS z)) = nI w ∧ r = (zS z) 13 w) (fun (u : Nat) => (u = 0 ∧ ¬ (¬ z1 < 0 ∧ z1 < nI (vcO (zS z)))) ∨ (u = 1 ∧ (¬ z1 < 0 ∧ z1 < nI (vcO (zS z))) ∧ s_placeOf (zS z) z1 z2 (bcO (zS z)) = -1)) r v) (h2 : (fun r (u : CT) => ((inr z1 (m_vc (M 0)) ∧ ∃ k, k < (m_bc (M 0)) ∧ m_find (M 0) z1 z2 (m_bc (M 0)) = nI k) ∧ M 0 (75 + 5 * cl (m_find (M 0) z1 z2 (m_bc (M 0)))) = r ∧ (us M 8 2 0) = u) ∨ ((¬ inr z1 (m_vc (M 0))) ∧ 0 = r ∧ (us M 8 2 1) = u) ∨ ((inr z1 (m_vc (M 0)) ∧ m_find (M 0) z1 z2 (m_bc (M 0)) = -1) ∧ 0 = r ∧ (us M 8 2 2) = u)) r2 M2) : M2 8 2 = r ∧ (r = 0 → fW f v 0 = r2.toInt64) ∧ REL (c + 1) (zW (fun w => z) (fun _ => z) v) M2 := by
  sorry
set_option maxHeartbeats 4000000 in
theorem eq_paidOf {c : Nat} {z : OS} {M : CT} (h : REL c z M) (hc : c ≤ 600) {f : Nat → Int64} (z1 z2 : Int32) {r : Int32} {v : (Int32 × Nat) ⊕ Nat} {r2 : Int32} {M2 : CT} (hv : wP (fun u => if ((fun u => if u = 0 then eIOOB else eNSE) u) = eIOOB then 1 else 2) (fun r (w : Nat) => (¬ z1 < 0 ∧ z1 < nI (vcO (zS z))) ∧ w < bcO (zS z) ∧ s_placeOf (zS z) z1 z2 (bcO (zS z)) = nI w ∧ r = (zS z) 14 w) (fun (u : Nat) => (u = 0 ∧ ¬ (¬ z1 < 0 ∧ z1 < nI (vcO (zS z)))) ∨ (u = 1 ∧ (¬ z1 < 0 ∧ z1 < nI (vcO (zS z))) ∧ s_placeOf (zS z) z1 z2 (bcO (zS z)) = -1)) r v) (h2 : (fun r (u : CT) => ((inr z1 (m_vc (M 0)) ∧ ∃ k, k < (m_bc (M 0)) ∧ m_find (M 0) z1 z2 (m_bc (M 0)) = nI k) ∧ M 0 (76 + 5 * cl (m_find (M 0) z1 z2 (m_bc (M 0)))) = r ∧ (us M 8 2 0) = u) ∨ ((¬ inr z1 (m_vc (M 0))) ∧ 0 = r ∧ (us M 8 2 1) = u) ∨ ((inr z1 (m_vc (M 0)) ∧ m_find (M 0) z1 z2 (m_bc (M 0)) = -1) ∧ 0 = r ∧ (us M 8 2 2) = u)) r2 M2) : M2 8 2 = r ∧ (r = 0 → fW f v 0 = r2.toInt64) ∧ REL (c + 1) (zW (fun w => z) (fun _ => z) v) M2 := by
  sorry
set_option maxHeartbeats 4000000 in
theorem eq_pageOf {c : Nat} {z : OS} {M : CT} (h : REL c z M) (hc : c ≤ 600) {f : Nat → Int64} (z1 z2 : Int32) {r : Int32} {v : (Int32 × Nat) ⊕ Nat} {r2 : Int32} {M2 : CT} (hv : wP (fun u => if ((fun u => if u = 0 then eIOOB else eNSE) u) = eIOOB then 1 else 2) (fun r (w : Nat) => (¬ z1 < 0 ∧ z1 < nI (vcO (zS z))) ∧ w < bcO (zS z) ∧ s_placeOf (zS z) z1 z2 (bcO (zS z)) = nI w ∧ r = nI w / 4) (fun (u : Nat) => (u = 0 ∧ ¬ (¬ z1 < 0 ∧ z1 < nI (vcO (zS z)))) ∨ (u = 1 ∧ (¬ z1 < 0 ∧ z1 < nI (vcO (zS z))) ∧ s_placeOf (zS z) z1 z2 (bcO (zS z)) = -1)) r v) (h2 : (fun r (u : CT) => ((inr z1 (m_vc (M 0)) ∧ ∃ k, k < (m_bc (M 0)) ∧ m_find (M 0) z1 z2 (m_bc (M 0)) = nI k) ∧ nI (cl (m_find (M 0) z1 z2 (m_bc (M 0))) / 4) = r ∧ (us M 8 2 0) = u) ∨ ((¬ inr z1 (m_vc (M 0))) ∧ 0 = r ∧ (us M 8 2 1) = u) ∨ ((inr z1 (m_vc (M 0)) ∧ m_find (M 0) z1 z2 (m_bc (M 0)) = -1) ∧ 0 = r ∧ (us M 8 2 2) = u)) r2 M2) : M2 8 2 = r ∧ (r = 0 → fW f v 0 = r2.toInt64) ∧ REL (c + 1) (zW (fun w => z) (fun _ => z) v) M2 := by
  sorry
set_option maxHeartbeats 4000000 in
theorem eq_forecastAt {c : Nat} {z : OS} {M : CT} (h : REL c z M) (hc : c ≤ 600) {f : Nat → Int64} (z1 : Int32) {r : Int32} {v : (Int32 × Nat) ⊕ Unit} {r2 : Int32} {M2 : CT} (hv : wP (fun _ => 1) (fun r (w : Nat) => w < bcO (zS z) ∧ z1 = nI w ∧ r = s_label ((zS z) 10 w) ((zS z) 11 w)) (fun (_ : Unit) => ¬ (¬ z1 < 0 ∧ ¬ (zS z) 16 12 - 1 < z1)) r v) (h2 : (fun r (u : CT) => ((inr z1 (m_bc (M 0))) ∧ 10 * M 0 (73 + 5 * cl z1) + M 0 (72 + 5 * cl z1) = r ∧ (us M 8 2 0) = u) ∨ ((¬ inr z1 (m_bc (M 0))) ∧ 0 = r ∧ (us M 8 2 1) = u)) r2 M2) : M2 8 2 = r ∧ (r = 0 → fW f v 0 = r2.toInt64) ∧ REL (c + 1) (zW (fun w => z) (fun _ => z) v) M2 := by
  sorry
set_option maxHeartbeats 4000000 in
theorem eq_pageCount {c : Nat} {z : OS} {M : CT} (h : REL c z M) (hc : c ≤ 600) {r r2 : Int32} (h1 : (fun r (_ : Unit) => r = nI ((bcO (zS z) + 4 - 1) / 4)) r ()) (h2 : (fun r (_ : Unit) => r = nI (((m_bc (M 0)) + 4 - 1) / 4)) r2 ()) : r = r2 := by
  sorry
set_option maxHeartbeats 4000000 in
theorem eq_refundOf {c : Nat} {z : OS} {M : CT} (h : REL c z M) (hc : c ≤ 600) {f : Nat → Int64} (z1 : Int32) {r : Int32} {v : (Int32 × Nat) ⊕ Unit} {r2 : Int32} {M2 : CT} (hv : wP (fun _ => 1) (fun r (w : Nat) => 4 * w < bcO (zS z) ∧ z1 = nI w ∧ r = s_paidForPage (zS z) w (bcO (zS z))) (fun (_ : Unit) => ¬ (¬ z1 < 0 ∧ z1 < nI ((bcO (zS z) + 4 - 1) / 4))) r v) (h2 : (fun r (u : CT) => ((inr z1 (((m_bc (M 0)) + 4 - 1) / 4)) ∧ m_refund (M 0) (cl z1) (m_bc (M 0)) = r ∧ (us M 8 2 0) = u) ∨ ((¬ inr z1 (((m_bc (M 0)) + 4 - 1) / 4)) ∧ 0 = r ∧ (us M 8 2 1) = u)) r2 M2) : M2 8 2 = r ∧ (r = 0 → fW f v 0 = r2.toInt64) ∧ REL (c + 1) (zW (fun w => z) (fun _ => z) v) M2 := by
  sorry
set_option maxHeartbeats 4000000 in
theorem eq_canRetract {c : Nat} {z : OS} {M : CT} (h : REL c z M) (hc : c ≤ 600) {f : Nat → Int64} (z1 : Int32) {r : Int32} {v : (Int32 × Nat) ⊕ Unit} {r2 : Int32} {M2 : CT} (hv : wP (fun _ => 1) (fun r (w : Nat) => 4 * w < bcO (zS z) ∧ z1 = nI w ∧ ((r = 1 ∧ s_canPay (zS z) w (bcO (zS z))) ∨ (r = 0 ∧ ¬ s_canPay (zS z) w (bcO (zS z))))) (fun (_ : Unit) => ¬ (¬ z1 < 0 ∧ z1 < nI ((bcO (zS z) + 4 - 1) / 4))) r v) (h2 : (fun r (u : CT) => ((inr z1 (((m_bc (M 0)) + 4 - 1) / 4) ∧ ¬ M 0 4 < m_refund (M 0) (cl z1) (m_bc (M 0))) ∧ 1 = r ∧ (us M 8 2 0) = u) ∨ ((inr z1 (((m_bc (M 0)) + 4 - 1) / 4) ∧ M 0 4 < m_refund (M 0) (cl z1) (m_bc (M 0))) ∧ 0 = r ∧ (us M 8 2 0) = u) ∨ ((¬ inr z1 (((m_bc (M 0)) + 4 - 1) / 4)) ∧ 0 = r ∧ (us M 8 2 1) = u)) r2 M2) : M2 8 2 = r ∧ (r = 0 → fWb f v 0 = if r2 = 0 then 0 else 1) ∧ REL (c + 1) (zW (fun w => z) (fun _ => z) v) M2 := by
  sorry
set_option maxHeartbeats 4000000 in
theorem eq_printRefusal {c : Nat} {z : OS} {M : CT} (h : REL c z M) (hc : c ≤ 600) {f : Nat → Int64} (z1 z2 : Int32) {r : Int32} {v : (Int32 × Unit) ⊕ Unit} {r2 : Int32} {M2 : CT} (hv : wP (fun _ => 1) (fun r (_ : Unit) => (¬ z1 < 0 ∧ z1 < nI (vcO (zS z))) ∧ r = s_refusal (zS z) z1 z2 (bcO (zS z))) (fun (_ : Unit) => ¬ (¬ z1 < 0 ∧ z1 < nI (vcO (zS z)))) r v) (h2 : (fun r (u : CT) => ((inr z1 (m_vc (M 0))) ∧ m_why (M 0) z1 z2 (m_bc (M 0)) = r ∧ (us M 8 2 0) = u) ∨ ((¬ inr z1 (m_vc (M 0))) ∧ 0 = r ∧ (us M 8 2 1) = u)) r2 M2) : M2 8 2 = r ∧ (r = 0 → fW f v 0 = r2.toInt64) ∧ REL (c + 1) (zW (fun w => z) (fun _ => z) v) M2 := by
  sorry
set_option maxHeartbeats 4000000 in
theorem eq_likeliestWeather {c : Nat} {z : OS} {M : CT} (h : REL c z M) (hc : c ≤ 600) {r r2 : Int32} (h1 : (fun r (_ : Unit) => r = nI (s_fg ((zS z) 8))) r ()) (h2 : (fun r (_ : Unit) => r = nI (s_fg (fun i => M 0 (1 + i)))) r2 ()) : r = r2 := by
  sorry
set_option maxHeartbeats 4000000 in
theorem eq_tomorrowIn {c : Nat} {z : OS} {M : CT} (h : REL c z M) (hc : c ≤ 600) {f : Nat → Int64} (z1 : Int32) {r : Int32} {v : (Int32 × Nat) ⊕ Unit} {r2 : Int32} {M2 : CT} (hv : wP (fun _ => 1) (fun r (w : Nat) => w < vcO (zS z) ∧ z1 = nI w ∧ r = nI (s_wf (zS z) (s_seeds (w + 1) ((zS z) 16 11)))) (fun (_ : Unit) => ¬ (¬ z1 < 0 ∧ z1 < nI (vcO (zS z)))) r v) (h2 : (fun r (u : CT) => ((inr z1 (m_vc (M 0))) ∧ nI (m_wb (M 0) (fo (fun _ s => s_seed s) 0 (cl z1 + 1) (M 0 0))) = r ∧ (us M 8 2 0) = u) ∨ ((¬ inr z1 (m_vc (M 0))) ∧ 0 = r ∧ (us M 8 2 1) = u)) r2 M2) : M2 8 2 = r ∧ (r = 0 → fW f v 0 = r2.toInt64) ∧ REL (c + 1) (zW (fun w => z) (fun _ => z) v) M2 := by
  sorry
set_option maxHeartbeats 4000000 in
theorem eq_regretCount {c : Nat} {z : OS} {M : CT} (h : REL c z M) (hc : c ≤ 600) {r r2 : Int32} (h1 : (fun r (_ : Unit) => r = (zS z) 16 13) r ()) (h2 : (fun r (_ : Unit) => r = M 0 9) r2 ()) : r = r2 := by
  sorry
set_option maxHeartbeats 4000000 in
theorem eq_regretAt {c : Nat} {z : OS} {M : CT} (h : REL c z M) (hc : c ≤ 600) {f : Nat → Int64} (z1 : Int32) {r : Int32} {v : (Int32 × Nat) ⊕ Unit} {r2 : Int32} {M2 : CT} (hv : wP (fun _ => 1) (fun r (w : Nat) => w < mcO (zS z) ∧ z1 = nI w ∧ r = (zS z) 15 w) (fun (_ : Unit) => ¬ (¬ z1 < 0 ∧ ¬ (zS z) 16 13 - 1 < z1)) r v) (h2 : (fun r (u : CT) => ((inr z1 (m_mc (M 0))) ∧ 10 * M 0 (222 + 2 * cl z1) + M 0 (223 + 2 * cl z1) = r ∧ (us M 8 2 0) = u) ∨ ((¬ inr z1 (m_mc (M 0))) ∧ 0 = r ∧ (us M 8 2 1) = u)) r2 M2) : M2 8 2 = r ∧ (r = 0 → fW f v 0 = r2.toInt64) ∧ REL (c + 1) (zW (fun w => z) (fun _ => z) v) M2 := by
  sorry
set_option maxHeartbeats 4000000 in
theorem eq_hits {c : Nat} {z : OS} {M : CT} (h : REL c z M) (hc : c ≤ 600) {r r2 : Int32} (h1 : (fun r (_ : Unit) => r = (zS z) 16 2) r ()) (h2 : (fun r (_ : Unit) => r = M 0 10) r2 ()) : r = r2 := by
  sorry
set_option maxHeartbeats 4000000 in
theorem eq_regrets {c : Nat} {z : OS} {M : CT} (h : REL c z M) (hc : c ≤ 600) {r r2 : Int32} (h1 : (fun r (_ : Unit) => r = (zS z) 16 3) r ()) (h2 : (fun r (_ : Unit) => r = M 0 11) r2 ()) : r = r2 := by
  sorry
set_option maxHeartbeats 4000000 in
theorem eq_retractions {c : Nat} {z : OS} {M : CT} (h : REL c z M) (hc : c ≤ 600) {r r2 : Int32} (h1 : (fun r (_ : Unit) => r = (zS z) 16 4) r ()) (h2 : (fun r (_ : Unit) => r = M 0 12) r2 ()) : r = r2 := by
  sorry
set_option maxHeartbeats 4000000 in
theorem eq_coinsAfter {c : Nat} {z : OS} {M : CT} (h : REL c z M) (hc : c ≤ 600) {f : Nat → Int64} (z1 : Int32) {r : Int32} {v : (Int32 × Nat) ⊕ Unit} {r2 : Int32} {M2 : CT} (hv : wP (fun _ => 1) (fun r (w : Nat) => w ≤ 200 ∧ z1 = nI w ∧ r = s_days w (zS z) 16 1) (fun (_ : Unit) => ¬ (¬ z1 < 0 ∧ ¬ nI 200 < z1)) r v) (h2 : (fun r (u : CT) => ((¬ z1 < 0 ∧ ¬ 200 < z1) ∧ m_days (cl z1) (M 0) 4 = r ∧ (ur (us M 8 2 0) 2 (m_days (cl z1) (M 0))) = u) ∨ ((¬ (¬ z1 < 0 ∧ ¬ 200 < z1)) ∧ 0 = r ∧ (us M 8 2 1) = u)) r2 M2) : M2 8 2 = r ∧ (r = 0 → fW f v 0 = r2.toInt64) ∧ REL (c + 1) (zW (fun w => zDs z (s_days w (zS z))) (fun _ => z) v) M2 := by
  sorry
set_option maxHeartbeats 4000000 in
theorem eq_trustAfter {c : Nat} {z : OS} {M : CT} (h : REL c z M) (hc : c ≤ 600) {f : Nat → Int64} (z1 z2 : Int32) {r : Int32} {v : (Int32 × Nat × Nat) ⊕ Nat} {r2 : Int32} {M2 : CT} (hv : wP (fun u => if ((fun u => if u = 0 then eIOOB else eIAE) u) = eIOOB then 1 else 2) (fun r (u : Nat × Nat) => (u.1 < vcO (zS z) ∧ z1 = nI u.1) ∧ (u.2 ≤ 200 ∧ z2 = nI u.2) ∧ r = s_days u.2 (zS z) 2 u.1) (fun (u : Nat) => (u = 0 ∧ ¬ (¬ z1 < 0 ∧ z1 < nI (vcO (zS z)))) ∨ (u = 1 ∧ (¬ z1 < 0 ∧ z1 < nI (vcO (zS z))) ∧ ¬ (¬ z2 < 0 ∧ ¬ nI 200 < z2))) r v) (h2 : (fun r (u : CT) => ((inr z1 (m_vc (M 0)) ∧ (¬ z2 < 0 ∧ ¬ 200 < z2)) ∧ m_days (cl z2) (M 0) (26 + 3 * cl z1) = r ∧ (ur (us M 8 2 0) 2 (m_days (cl z2) (M 0))) = u) ∨ ((¬ inr z1 (m_vc (M 0))) ∧ 0 = r ∧ (us M 8 2 1) = u) ∨ ((inr z1 (m_vc (M 0)) ∧ ¬ (¬ z2 < 0 ∧ ¬ 200 < z2)) ∧ 0 = r ∧ (us M 8 2 2) = u)) r2 M2) : M2 8 2 = r ∧ (r = 0 → fW f v 0 = r2.toInt64) ∧ REL (c + 1) (zW (fun w => zDs z (s_days w.2 (zS z))) (fun _ => z) v) M2 := by
  sorry
set_option maxHeartbeats 4000000 in
theorem eq_daysUntilEmpty {c : Nat} {z : OS} {M : CT} (h : REL c z M) (hc : c ≤ 600) : ∃ N, N ≤ 1000 ∧ (∀ j, j < N → 0 < m_bc (m_days j (M 0))) ∧ m_bc (m_days N (M 0)) = 0 ∧ ∀ r, (fun r (_ : Unit) => r = if (zS z) 16 12 = 0 then 0 else s_latestDay (zS z) (bcO (zS z)) - (zS z) 16 0) r () → r = nI N := by
  sorry
set_option maxHeartbeats 4000000 in
theorem eq_bestSeller {c : Nat} {z : OS} {M : CT} (h : REL c z M) (hc : c ≤ 600) {r r2 : Int32} (h1 : (fun r (_ : Unit) => r = if s_best (zS z) (bcO (zS z)) = -1 then -1 else s_label ((zS z) 10 (s_bestAt (zS z) (bcO (zS z)))) ((zS z) 11 (s_bestAt (zS z) (bcO (zS z))))) r ()) (h2 : (fun r (_ : Unit) => r = if (m_bc (M 0)) = 0 then -1 else 10 * M 0 (73 + 5 * m_best (M 0) (m_bc (M 0))) + M 0 (72 + 5 * m_best (M 0) (m_bc (M 0)))) r2 ()) : r = r2 := by
  sorry
set_option maxHeartbeats 4000000 in
theorem eq_copyDifference {c : Nat} {z : OS} {M : CT} (h : REL c z M) (hc : c ≤ 600) {r r2 : Int32} (h1 : (fun r (_ : Unit) => r = (zS z) 16 5 - s_copies (zS z) (bcO (zS z)) - (zS z) 16 6) r ()) (h2 : (fun r (_ : Unit) => r = fo (fun k s => s - M 0 (75 + 5 * k)) 0 (m_bc (M 0)) (M 0 13 - M 0 14)) r2 ()) : r = r2 := by
  sorry
set_option maxHeartbeats 4000000 in
theorem eq_coinDifference {c : Nat} {z : OS} {M : CT} (h : REL c z M) (hc : c ≤ 600) {r r2 : Int32} (h1 : (fun r (_ : Unit) => r = (zS z) 16 7 - (zS z) 16 8 - (zS z) 16 1) r ()) (h2 : (fun r (_ : Unit) => r = M 0 15 - M 0 16 - M 0 4) r2 ()) : r = r2 := by
  sorry
set_option maxHeartbeats 4000000 in
theorem eq_bookErrors {c : Nat} {z : OS} {M : CT} (h : REL c z M) (hc : c ≤ 600) {r r2 : Int32} (h1 : (fun r (_ : Unit) => r = s_errors (zS z) (bcO (zS z))) r ()) (h2 : (fun r (_ : Unit) => r = m_errs (M 0) (m_bc (M 0))) r2 ()) : r = r2 := by
  sorry
set_option maxHeartbeats 4000000 in
theorem eq_hitShare {c : Nat} {z : OS} {M : CT} (h : REL c z M) (hc : c ≤ 600) {r r2 : UInt32} (h1 : (fun r9 (_ : Unit) => r9 = ff_ratio ((zS z) 16 2) ((zS z) 16 2 + (zS z) 16 3)) r ()) (h2 : (fun r9 (_ : Unit) => r9 = ff_ratio (M 0 10) (M 0 10 + M 0 11)) r2 ()) : r = r2 := by
  sorry
set_option maxHeartbeats 4000000 in
theorem eq_averageTrust {c : Nat} {z : OS} {M : CT} (h : REL c z M) (hc : c ≤ 600) {r r2 : UInt64} (h1 : (fun r9 (_ : Unit) => r9 = fd_ratio (s_sumT (zS z) (vcO (zS z))) ((zS z) 16 9)) r ()) (h2 : (fun r9 (_ : Unit) => r9 = fd_ratio (m_sumT (M 0) (m_vc (M 0))) (M 0 6)) r2 ()) : r = r2 := by
  sorry
set_option maxHeartbeats 4000000 in
theorem eq_print {c : Nat} {z : OS} {M : CT} (h : REL c z M) (hc : c ≤ 600) {f : Nat → Int64} (z1 z2 z3 : Int32) {r : Int32} {v : (Int32 × Unit) ⊕ Nat} {r2 : Int32} {M2 : CT} (hv : wP (fun u => if ((fun u => if u = 0 then eIOOB else if u = 1 then eIAE else eISE) u) = eIOOB then 1 else if ((fun u => if u = 0 then eIOOB else if u = 1 then eIAE else eISE) u) = eIAE then 2 else 3) (fun r9 (_ : Unit) => (¬ z1 < 0 ∧ z1 < nI (vcO (zS z))) ∧ (¬ z3 < 0 ∧ ¬ 2 < z3) ∧ s_refusal (zS z) z1 z2 (bcO (zS z)) = 0 ∧ r9 = nI (bcO (zS z)) / 4) (fun (u : Nat) => (u = 0 ∧ ¬ (¬ z1 < 0 ∧ z1 < nI (vcO (zS z)))) ∨ (u = 1 ∧ (¬ z1 < 0 ∧ z1 < nI (vcO (zS z))) ∧ ¬ (¬ z3 < 0 ∧ ¬ 2 < z3)) ∨ (u = 2 ∧ (¬ z1 < 0 ∧ z1 < nI (vcO (zS z))) ∧ (¬ z3 < 0 ∧ ¬ 2 < z3) ∧ ¬ s_refusal (zS z) z1 z2 (bcO (zS z)) = 0)) r v) (h2 : (fun r (u : CT) => ((inr z1 (m_vc (M 0)) ∧ inr z3 3 ∧ m_why (M 0) z1 z2 (m_bc (M 0)) = 0) ∧ nI ((m_bc (M 0)) / 4) = r ∧ (ur (us (us (ur (us M 8 2 0) 3 (va_cpy (M 0) (M 3) 0 (242 * (((cl (M 8 1)) + (cl (M 8 0))) % 8)) 242)) 8 1 (nI (if (cl (M 8 0)) = 8 then ((cl (M 8 1)) + 1) % 8 else (cl (M 8 1))))) 8 0 (nI (min ((cl (M 8 0)) + 1) 8))) 0 (m_prints (M 0) z1 z2 z3 (m_bc (M 0)))) = u) ∨ ((¬ inr z1 (m_vc (M 0))) ∧ 0 = r ∧ (us M 8 2 1) = u) ∨ ((inr z1 (m_vc (M 0)) ∧ ¬ inr z3 3) ∧ 0 = r ∧ (us M 8 2 2) = u) ∨ ((inr z1 (m_vc (M 0)) ∧ inr z3 3 ∧ ¬ m_why (M 0) z1 z2 (m_bc (M 0)) = 0) ∧ 0 = r ∧ (us M 8 2 3) = u)) r2 M2) : M2 8 2 = r ∧ (r = 0 → fW f v 0 = r2.toInt64) ∧ REL (c + 1) (zW (fun w => zR z (s_bookAdd (zS z) z1 z2 z3 (bcO (zS z)))) (fun _ => z) v) M2 := by
  sorry
set_option maxHeartbeats 4000000 in
theorem eq_retract {c : Nat} {z : OS} {M : CT} (h : REL c z M) (hc : c ≤ 600) {f : Nat → Int64} (z1 : Int32) {r : Int32} {v : (Int32 × Nat) ⊕ Nat × Nat} {r2 : Int32} {M2 : CT} (hv : wP (fun u => if ((fun u => if u.1 = 0 then eNSE else eISE) u) = eNSE then 1 else 2) (fun r9 (w : Nat) => (4 * w < bcO (zS z) ∧ z1 = nI w) ∧ s_canPay (zS z) w (bcO (zS z)) ∧ r9 = s_paidForPage (zS z) w (bcO (zS z))) (fun (u : Nat × Nat) => (u.1 = 0 ∧ ¬ (¬ z1 < 0 ∧ z1 < nI ((bcO (zS z) + 4 - 1) / 4))) ∨ (u.1 = 1 ∧ (4 * u.2 < bcO (zS z) ∧ z1 = nI u.2) ∧ ¬ s_canPay (zS z) u.2 (bcO (zS z)))) r v) (h2 : (fun r (u : CT) => ((inr z1 (((m_bc (M 0)) + 4 - 1) / 4) ∧ m_refund (M 0) (cl z1) (m_bc (M 0)) ≤ M 0 4) ∧ m_refund (M 0) (cl z1) (m_bc (M 0)) = r ∧ (ur (us (us (ur (us M 8 2 0) 3 (va_cpy (M 0) (M 3) 0 (242 * (((cl (M 8 1)) + (cl (M 8 0))) % 8)) 242)) 8 1 (nI (if (cl (M 8 0)) = 8 then ((cl (M 8 1)) + 1) % 8 else (cl (M 8 1))))) 8 0 (nI (min ((cl (M 8 0)) + 1) 8))) 0 (m_retracts (M 0) (cl z1) (m_bc (M 0)))) = u) ∨ ((¬ inr z1 (((m_bc (M 0)) + 4 - 1) / 4)) ∧ 0 = r ∧ (us M 8 2 1) = u) ∨ ((inr z1 (((m_bc (M 0)) + 4 - 1) / 4) ∧ ¬ m_refund (M 0) (cl z1) (m_bc (M 0)) ≤ M 0 4) ∧ 0 = r ∧ (us M 8 2 2) = u)) r2 M2) : M2 8 2 = r ∧ (r = 0 → fW f v 0 = r2.toInt64) ∧ REL (c + 1) (zW (fun w => zR z (s_takeBack (zS z) w (bcO (zS z)) (vcO (zS z)))) (fun _ => z) v) M2 := by
  sorry
set_option maxHeartbeats 4000000 in
theorem eq_setTrust {c : Nat} {z : OS} {M : CT} (h : REL c z M) (hc : c ≤ 600) {f : Nat → Int64} (z1 z2 : Int32) {r : Int32} {v : (Int32 × Nat) ⊕ Nat} {r2 : Int32} {M2 : CT} (hv : wP (fun u => if ((fun u => if u = 0 then eIOOB else eIAE) u) = eIOOB then 1 else 2) (fun r9 (w : Nat) => (w < vcO (zS z) ∧ z1 = nI w) ∧ (¬ z2 < 0 ∧ ¬ 100 < z2) ∧ r9 = (zS z) 2 w) (fun (u : Nat) => (u = 0 ∧ ¬ (¬ z1 < 0 ∧ z1 < nI (vcO (zS z)))) ∨ (u = 1 ∧ (¬ z1 < 0 ∧ z1 < nI (vcO (zS z))) ∧ ¬ (¬ z2 < 0 ∧ ¬ 100 < z2))) r v) (h2 : (fun r (u : CT) => ((inr z1 (m_vc (M 0)) ∧ (¬ z2 < 0 ∧ ¬ 100 < z2)) ∧ M 0 (26 + 3 * cl z1) = r ∧ (us (us (us (ur (us M 8 2 0) 3 (va_cpy (M 0) (M 3) 0 (242 * (((cl (M 8 1)) + (cl (M 8 0))) % 8)) 242)) 8 1 (nI (if (cl (M 8 0)) = 8 then ((cl (M 8 1)) + 1) % 8 else (cl (M 8 1))))) 8 0 (nI (min ((cl (M 8 0)) + 1) 8))) 0 (26 + 3 * cl z1) z2) = u) ∨ ((¬ inr z1 (m_vc (M 0))) ∧ 0 = r ∧ (us M 8 2 1) = u) ∨ ((inr z1 (m_vc (M 0)) ∧ ¬ (¬ z2 < 0 ∧ ¬ 100 < z2)) ∧ 0 = r ∧ (us M 8 2 2) = u)) r2 M2) : M2 8 2 = r ∧ (r = 0 → fW f v 0 = r2.toInt64) ∧ REL (c + 1) (zW (fun w => zR z (us (zS z) 2 w z2)) (fun _ => z) v) M2 := by
  sorry
set_option maxHeartbeats 4000000 in
theorem eq_setPeople {c : Nat} {z : OS} {M : CT} (h : REL c z M) (hc : c ≤ 600) {f : Nat → Int64} (z1 z2 : Int32) {r : Int32} {v : (Int32 × Nat) ⊕ Nat} {r2 : Int32} {M2 : CT} (hv : wP (fun u => if ((fun u => if u = 0 then eIOOB else eIAE) u) = eIOOB then 1 else 2) (fun r9 (w : Nat) => (w < vcO (zS z) ∧ z1 = nI w) ∧ (¬ z2 < 1 ∧ ¬ 99 < z2) ∧ r9 = (zS z) 1 w) (fun (u : Nat) => (u = 0 ∧ ¬ (¬ z1 < 0 ∧ z1 < nI (vcO (zS z)))) ∨ (u = 1 ∧ (¬ z1 < 0 ∧ z1 < nI (vcO (zS z))) ∧ ¬ (¬ z2 < 1 ∧ ¬ 99 < z2))) r v) (h2 : (fun r (u : CT) => ((inr z1 (m_vc (M 0)) ∧ (¬ z2 < 1 ∧ ¬ 99 < z2)) ∧ M 0 (25 + 3 * cl z1) = r ∧ (us (us (us (ur (us M 8 2 0) 3 (va_cpy (M 0) (M 3) 0 (242 * (((cl (M 8 1)) + (cl (M 8 0))) % 8)) 242)) 8 1 (nI (if (cl (M 8 0)) = 8 then ((cl (M 8 1)) + 1) % 8 else (cl (M 8 1))))) 8 0 (nI (min ((cl (M 8 0)) + 1) 8))) 0 (25 + 3 * cl z1) z2) = u) ∨ ((¬ inr z1 (m_vc (M 0))) ∧ 0 = r ∧ (us M 8 2 1) = u) ∨ ((inr z1 (m_vc (M 0)) ∧ ¬ (¬ z2 < 1 ∧ ¬ 99 < z2)) ∧ 0 = r ∧ (us M 8 2 2) = u)) r2 M2) : M2 8 2 = r ∧ (r = 0 → fW f v 0 = r2.toInt64) ∧ REL (c + 1) (zW (fun w => zR z (us (zS z) 1 w z2)) (fun _ => z) v) M2 := by
  sorry
set_option maxHeartbeats 4000000 in
theorem eq_setOdds {c : Nat} {z : OS} {M : CT} (h : REL c z M) (hc : c ≤ 600) {f : Nat → Int64} (z1 z2 : Int32) {r : Int32} {v : (Int32 × Nat) ⊕ Nat × Nat} {r2 : Int32} {M2 : CT} (hv : wP (fun u => if ((fun u => if u.1 = 0 then eIAE else eISE) u) = eIAE then 1 else 2) (fun r9 (w : Nat) => (w < 3 ∧ z1 = nI w) ∧ (¬ z2 < 0 ∧ ¬ 20 < z2) ∧ ¬ s_sumO (zS z) - (zS z) 8 w + z2 = 0 ∧ r9 = (zS z) 8 w) (fun (u : Nat × Nat) => (u.1 = 0 ∧ ¬ (¬ z1 < 0 ∧ ¬ 2 < z1)) ∨ (u.1 = 0 ∧ (¬ z1 < 0 ∧ ¬ 2 < z1) ∧ ¬ (¬ z2 < 0 ∧ ¬ 20 < z2)) ∨ (u.1 = 1 ∧ (u.2 < 3 ∧ z1 = nI u.2) ∧ (¬ z2 < 0 ∧ ¬ 20 < z2) ∧ s_sumO (zS z) - (zS z) 8 u.2 + z2 = 0)) r v) (h2 : (fun r (u : CT) => ((inr z1 3 ∧ (¬ z2 < 0 ∧ ¬ 20 < z2) ∧ ¬ m_allOdds (M 0) - M 0 (1 + cl z1) + z2 = 0) ∧ M 0 (1 + cl z1) = r ∧ (us (us (us (ur (us M 8 2 0) 3 (va_cpy (M 0) (M 3) 0 (242 * (((cl (M 8 1)) + (cl (M 8 0))) % 8)) 242)) 8 1 (nI (if (cl (M 8 0)) = 8 then ((cl (M 8 1)) + 1) % 8 else (cl (M 8 1))))) 8 0 (nI (min ((cl (M 8 0)) + 1) 8))) 0 (1 + cl z1) z2) = u) ∨ ((¬ inr z1 3) ∧ 0 = r ∧ (us M 8 2 1) = u) ∨ ((inr z1 3 ∧ ¬ (¬ z2 < 0 ∧ ¬ 20 < z2)) ∧ 0 = r ∧ (us M 8 2 1) = u) ∨ ((inr z1 3 ∧ (¬ z2 < 0 ∧ ¬ 20 < z2) ∧ m_allOdds (M 0) - M 0 (1 + cl z1) + z2 = 0) ∧ 0 = r ∧ (us M 8 2 2) = u)) r2 M2) : M2 8 2 = r ∧ (r = 0 → fW f v 0 = r2.toInt64) ∧ REL (c + 1) (zW (fun w => zR z (us (zS z) 8 w z2)) (fun _ => z) v) M2 := by
  sorry
set_option maxHeartbeats 4000000 in
theorem eq_pass {c : Nat} {z : OS} {M : CT} (h : REL c z M) (hc : c ≤ 600) {f : Nat → Int64} (z1 : Int32) {r : Int32} {v : (Int32 × Nat) ⊕ Unit} {r2 : Int32} {M2 : CT} (hv : wP (fun _ => 1) (fun r9 (w : Nat) => (1 ≤ w ∧ w ≤ 200 ∧ z1 = nI w) ∧ r9 = s_days w (zS z) 16 3 - (zS z) 16 3) (fun (_ : Unit) => ¬ (¬ z1 < 1 ∧ ¬ nI 200 < z1)) r v) (h2 : (fun r (u : CT) => ((¬ z1 < 1 ∧ ¬ 200 < z1) ∧ m_days (cl z1) (M 0) 11 - M 0 11 = r ∧ (ur (us (us (ur (us M 8 2 0) 3 (va_cpy (M 0) (M 3) 0 (242 * (((cl (M 8 1)) + (cl (M 8 0))) % 8)) 242)) 8 1 (nI (if (cl (M 8 0)) = 8 then ((cl (M 8 1)) + 1) % 8 else (cl (M 8 1))))) 8 0 (nI (min ((cl (M 8 0)) + 1) 8))) 0 (m_days (cl z1) (M 0))) = u) ∨ ((¬ (¬ z1 < 1 ∧ ¬ 200 < z1)) ∧ 0 = r ∧ (us M 8 2 1) = u)) r2 M2) : M2 8 2 = r ∧ (r = 0 → fW f v 0 = r2.toInt64) ∧ REL (c + 1) (zW (fun w => zR z (s_days w (zS z))) (fun _ => z) v) M2 := by
  sorry
set_option maxHeartbeats 4000000 in
theorem eq_writePage {c : Nat} {z : OS} {M : CT} (h : REL c z M) (hc : c ≤ 600) {f : Nat → Int64} (z1 : Int32) {r : Int32} {v : (Int32 × Nat) ⊕ Unit} {r2 : Int32} {M2 : CT} (hv : wP (fun _ => 1) (fun r9 (w : Nat) => (4 * w < bcO (zS z) ∧ z1 = nI w) ∧ r9 = nI (b_page (zS z) w ((zo z).1, 0)).2) (fun (_ : Unit) => ¬ (¬ z1 < 0 ∧ z1 < nI ((bcO (zS z) + 4 - 1) / 4))) r v) (h2 : (fun r (u : CT) => ((inr z1 (((m_bc (M 0)) + 4 - 1) / 4)) ∧ nI ((w_page (M 0) (cl z1) (m_bc (M 0)) (M 7, 0)).2) = r ∧ (outW (us M 8 2 0) (w_page (M 0) (cl z1) (m_bc (M 0)) (M 7, 0))) = u) ∨ ((¬ inr z1 (((m_bc (M 0)) + 4 - 1) / 4)) ∧ 0 = r ∧ (us M 8 2 1) = u)) r2 M2) : M2 8 2 = r ∧ (r = 0 → fW f v 0 = r2.toInt64) ∧ REL (c + 1) (zW (fun w => zOut z (b_page (zS z) w ((zo z).1, 0))) (fun _ => z) v) M2 := by
  sorry
set_option maxHeartbeats 4000000 in
theorem eq_outputByte {c : Nat} {z : OS} {M : CT} (h : REL c z M) (hc : c ≤ 600) {f : Nat → Int64} (z1 : Int32) {r : Int32} {v : (Int32 × Nat) ⊕ Unit} {r2 : Int32} {M2 : CT} (hv : wP (fun _ => 1) (fun r9 (w : Nat) => w < (zo z).2 ∧ z1 = nI w ∧ r9 = (zo z).1 w &&& 255) (fun (_ : Unit) => ¬ (¬ z1 < 0 ∧ ¬ nI (zo z).2 - 1 < z1)) r v) (h2 : (fun r (u : CT) => ((inr z1 (cl (M 8 11))) ∧ M 7 (cl z1) = r ∧ (us M 8 2 0) = u) ∨ ((¬ inr z1 (cl (M 8 11))) ∧ 0 = r ∧ (us M 8 2 1) = u)) r2 M2) : M2 8 2 = r ∧ (r = 0 → fW f v 0 = r2.toInt64) ∧ REL (c + 1) (zW (fun w => z) (fun _ => z) v) M2 := by
  sorry
set_option maxHeartbeats 4000000 in
theorem eq_save {c : Nat} {z : OS} {M : CT} (h : REL c z M) (hc : c ≤ 600) {f : Nat → Int64} (z1 : Int32) {r : Int32} {v : (Int32 × Nat) ⊕ Unit} {r2 : Int32} {M2 : CT} (hv : wP (fun _ => 1) (fun r9 (w : Nat) => (w < 2 ∧ z1 = nI w) ∧ r9 = (zS z) 16 0) (fun (_ : Unit) => ¬ (¬ z1 < 0 ∧ ¬ 1 < z1)) r v) (h2 : (fun r (u : CT) => ((¬ z1 < 0 ∧ ¬ 1 < z1) ∧ M 0 5 = r ∧ (us (ur (us M 8 2 0) 4 (va_cpy (M 0) (M 4) 0 (242 * cl z1) 242)) 5 (cl z1) (vp_nar .boolean 1)) = u) ∨ ((¬ (¬ z1 < 0 ∧ ¬ 1 < z1)) ∧ 0 = r ∧ (us M 8 2 1) = u)) r2 M2) : M2 8 2 = r ∧ (r = 0 → fW f v 0 = r2.toInt64) ∧ REL (c + 1) (zW (fun w => zSv z w) (fun _ => z) v) M2 := by
  sorry
set_option maxHeartbeats 4000000 in
theorem eq_restore {c : Nat} {z : OS} {M : CT} (h : REL c z M) (hc : c ≤ 600) {f : Nat → Int64} (z1 : Int32) {r : Int32} {v : (Int32 × Nat) ⊕ Nat × Nat} {r2 : Int32} {M2 : CT} (hv : wP (fun u => if ((fun u => if u.1 = 0 then eIOOB else eISE) u) = eIOOB then 1 else 2) (fun r9 (w : Nat) => (w < 2 ∧ z1 = nI w) ∧ ¬ (zf z) w = 0 ∧ r9 = (zL z) w 16 0) (fun (u : Nat × Nat) => (u.1 = 0 ∧ ¬ (¬ z1 < 0 ∧ ¬ 1 < z1)) ∨ (u.1 = 1 ∧ (u.2 < 2 ∧ z1 = nI u.2) ∧ (zf z) u.2 = 0)) r v) (h2 : (fun r (u : CT) => (((¬ z1 < 0 ∧ ¬ 1 < z1) ∧ ¬ M 5 (cl z1) = 0) ∧ M 4 (242 * cl z1 + 5) = r ∧ (ur (us (us (ur (us M 8 2 0) 3 (va_cpy (M 0) (M 3) 0 (242 * (((cl (M 8 1)) + (cl (M 8 0))) % 8)) 242)) 8 1 (nI (if (cl (M 8 0)) = 8 then ((cl (M 8 1)) + 1) % 8 else (cl (M 8 1))))) 8 0 (nI (min ((cl (M 8 0)) + 1) 8))) 0 (fun j => M 4 (242 * cl z1 + j))) = u) ∨ ((¬ (¬ z1 < 0 ∧ ¬ 1 < z1)) ∧ 0 = r ∧ (us M 8 2 1) = u) ∨ (((¬ z1 < 0 ∧ ¬ 1 < z1) ∧ M 5 (cl z1) = 0) ∧ 0 = r ∧ (us M 8 2 2) = u)) r2 M2) : M2 8 2 = r ∧ (r = 0 → fW f v 0 = r2.toInt64) ∧ REL (c + 1) (zW (fun w => zR z (zL z w)) (fun _ => z) v) M2 := by
  sorry
set_option maxHeartbeats 4000000 in
theorem eq_undo {c : Nat} {z : OS} {M : CT} (h : REL c z M) (hc : c ≤ 600) {f : Nat → Int64} {r : Int32} {v : (Int32 × Unit) ⊕ Unit} {r2 : Int32} {M2 : CT} (hv : wP (fun _ => 1) (fun r9 (_ : Unit) => 0 < (zk z) ∧ r9 = nI ((zk z) - 1)) (fun (_ : Unit) => (zk z) = 0) r v) (h2 : (fun r (u : CT) => ((0 < (cl (M 8 0))) ∧ nI ((cl (M 8 0)) - 1) = r ∧ (ur (us (us M 8 2 0) 8 0 (nI ((cl (M 8 0)) - 1))) 0 (fun j => M 3 (242 * (((cl (M 8 1)) + ((cl (M 8 0)) - 1)) % 8) + j))) = u) ∨ (((cl (M 8 0)) = 0) ∧ 0 = r ∧ (us M 8 2 1) = u)) r2 M2) : M2 8 2 = r ∧ (r = 0 → fW f v 0 = r2.toInt64) ∧ REL (c + 1) (zW (fun w => zUn z) (fun _ => z) v) M2 := by
  sorry

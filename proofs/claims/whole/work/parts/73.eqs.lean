theorem REL.mN {n : Nat} {z : OS} {M : CT} (h : REL n z M) (hc : n ≤ 600) : mN (M 0) (m_bc (M 0)) (m_vc (M 0)) := by
  obtain ⟨hX, hY⟩ := h.1.xc
  refine ⟨fun w hw => ?_, fun k hk => ?_⟩
  · obtain ⟨L, l1, l2, l3, -, l5⟩ := hX.1.2.1 w hw
    exact ⟨k27 4 L 0, k27_lt l2 l3, l5⟩
  · obtain ⟨d, d1, d2, d3⟩ := hY
    obtain ⟨e, e1, e2, e3, -⟩ := d3 k hk
    exact ⟨e, by unfold dB at d1; omega, e3⟩
set_option maxHeartbeats 4000000 in
theorem eq_appendInput {c : Nat} {z : OS} {M : CT} (h : REL c z M) (hc : c ≤ 600) {f : Nat → Int64} (z1 z2 z3 z4 z5 : Int32) {r : Int32} {v : (Int32 × Unit) ⊕ Unit} {r2 : Int32} {M2 : CT} (hv : wP (fun _ => 1) (fun r9 (_ : Unit) => (zi z).2 + 20 ≤ 600 ∧ r9 = nI ((zi z).2 + 20)) (fun (_ : Unit) => ¬ (zi z).2 + 20 ≤ 600) r v) (h2 : (fun r (u : CT) => (((cl (M 8 3)) + 20 ≤ 600) ∧ nI ((cl (M 8 3)) + 20) = r ∧ (q_ai z1 z2 z3 z4 z5 (cl (M 8 3)) (us M 8 2 0)) = u) ∨ ((600 < (cl (M 8 3)) + 20) ∧ 0 = r ∧ (us M 8 2 1) = u)) r2 M2) : M2 8 2 = r ∧ (r = 0 → fW f v 0 = r2.toInt64) ∧ REL (c + 1) (zW (fun w => zIn z (b_app z1 z2 z3 z4 z5 (zi z))) (fun _ => z) v) M2 := by
  have hV : vcO (zS z) = m_vc (M 0) := h.1.1.vc
  have hF : fcO (zS z) = m_fc (M 0) := h.1.1.fc
  have hB : bcO (zS z) = m_bc (M 0) := h.1.1.bc
  have hMc : mcO (zS z) = m_mc (M 0) := h.1.1.mc
  have bV := h.vc.2
  have bF := h.fc.2
  have bB := h.bc.2
  have bM := h.mc.2
  obtain ⟨hX, hY⟩ := h.1.xc
  have hD : dB c ≤ 1000000 := by unfold dB; omega
  try simp only [hV, hF, hB, hMc] at hv ⊢
  obtain ⟨il, o1, o2, o3, o4⟩ := h.2.2.2.1
  have ho : cl (M 8 3) = il := by rw [o3, cl_n (by omega)]
  rw [ho] at h2
  have hA := AI.app (M := us M 8 2 0) (q := zi z) (n := il) ⟨⟨o2, o4⟩, o3, fun _ _ _ => rfl, fun _ _ => rfl⟩ z1 z2 z3 z4 z5
  obtain ⟨⟨i1, i2⟩, i3, i4, i5⟩ := hA
  refine qN (C := il + 20 ≤ 600) (E := fun w => w = 1 ∧ 600 < il + 20) (val := nI (il + 20)) (N := q_ai z1 z2 z3 z4 z5 il (us M 8 2 0)) (z1 := fun _ : Unit => zIn z (b_app z1 z2 z3 z4 z5 (zi z))) h hv ?_ (fun r w p => ?_) (fun w p => ?_) (fun _ => by decide)
  · rcases h2 with d | ⟨d1, d2⟩
    · exact Or.inl d
    · exact Or.inr ⟨1, ⟨rfl, d1⟩, d2⟩
  · obtain ⟨p1, p2⟩ := p
    rw [o2] at p1 p2
    refine ⟨fun w9 e => by omega, p2, (i5 2 (by decide)).trans (us822 M 0), ?_⟩
    obtain ⟨a1, ⟨un, u0, b1, b2, b3, b4, b5, b6, b7⟩, a3, -, a5, a6, a7⟩ := h.thr 0
    refine ⟨by rw [i4 0 (by decide) (by decide)]; exact a1, ⟨un, u0, (i5 0 (by decide)).trans b1, b2, (i5 1 (by decide)).trans b3, b4, b5, b6, fun i hi => by rw [i4 3 (by decide) (by decide)]; exact b7 i hi⟩, fun w hw => by rw [i4 5 (by decide) (by decide), i4 4 (by decide) (by decide)]; exact a3 w hw, ⟨il + 20, p1, i1, i3, i2⟩, by rw [i5 11 (by decide), i4 7 (by decide) (by decide)]; exact a5, a6.trans (i5 9 (by decide)).symm, a7.trans (i5 10 (by decide)).symm⟩
  · have p : ¬ (zi z).2 + 20 ≤ 600 := p
    rw [o2] at p
    exact ⟨p, fun w9 e => e.1⟩
set_option maxHeartbeats 4000000 in
theorem eq_truncateInput {c : Nat} {z : OS} {M : CT} (h : REL c z M) (hc : c ≤ 600) {f : Nat → Int64} (z1 : Int32) {r : Int32} {v : (Int32 × Nat) ⊕ Unit} {r2 : Int32} {M2 : CT} (hv : wP (fun _ => 1) (fun r9 (w : Nat) => w ≤ (zi z).2 ∧ z1 = nI w ∧ r9 = nI w) (fun (_ : Unit) => ¬ (¬ z1 < 0 ∧ ¬ nI (zi z).2 < z1)) r v) (h2 : (fun r (u : CT) => ((inr z1 ((cl (M 8 3)) + 1)) ∧ z1 = r ∧ (us (us M 8 2 0) 8 3 z1) = u) ∨ ((¬ inr z1 ((cl (M 8 3)) + 1)) ∧ 0 = r ∧ (us M 8 2 1) = u)) r2 M2) : M2 8 2 = r ∧ (r = 0 → fW f v 0 = r2.toInt64) ∧ REL (c + 1) (zW (fun w => zIn z ((zi z).1, w)) (fun _ => z) v) M2 := by
  have hV : vcO (zS z) = m_vc (M 0) := h.1.1.vc
  have hF : fcO (zS z) = m_fc (M 0) := h.1.1.fc
  have hB : bcO (zS z) = m_bc (M 0) := h.1.1.bc
  have hMc : mcO (zS z) = m_mc (M 0) := h.1.1.mc
  have bV := h.vc.2
  have bF := h.fc.2
  have bB := h.bc.2
  have bM := h.mc.2
  obtain ⟨hX, hY⟩ := h.1.xc
  have hD : dB c ≤ 1000000 := by unfold dB; omega
  try simp only [hV, hF, hB, hMc] at hv ⊢
  obtain ⟨il, o1, o2, o3, o4⟩ := h.2.2.2.1
  have ho : cl (M 8 3) = il := by rw [o3, cl_n (by omega)]
  rw [ho] at h2
  refine q2 (C := inr z1 (il + 1)) (val := z1) (N := us (us M 8 2 0) 8 3 z1) h hv h2 (fun r w p => ?_) (fun _ p q => p ?_)
  · obtain ⟨p1, rfl, p3⟩ := p
    rw [o2] at p1
    refine ⟨inr_n (by omega) (by omega), p3, rfl, ?_⟩
    obtain ⟨a1, ⟨un, u0, b1, b2, b3, b4, b5, b6, b7⟩, a3, -, a5, a6, a7⟩ := h.thr 0
    refine ⟨a1, ⟨un, u0, b1, b2, b3, b4, b5, b6, b7⟩, a3, ⟨w, by omega, rfl, rfl, fun j hj => o4 j (by omega)⟩, a5, a6, a7⟩
  · rw [o2]
    obtain ⟨w, w1, rfl⟩ := has_nat q (by omega)
    exact ⟨nI_nneg (by omega), nI_nlt (by omega) (by omega)⟩
set_option maxHeartbeats 4000000 in
theorem eq_load {c : Nat} {z : OS} {M : CT} (h : REL c z M) (hc : c ≤ 600) {f : Nat → Int64} (t : PS CT) (ht : t = ztx z) {r : Int32} {v : (Int32 × Unit) ⊕ Unit} {r2 : Int32} {M2 : CT} (hv : wP (fun _ => 1) (fun r9 (_ : Unit) => (t).2.2.1 = 0 ∧ r9 = (t).1 16 9) (fun (_ : Unit) => ¬ (t).2.2.1 = 0) r v) (h2 : (fun r (u : CT) => (((p_all (M 6) (cl (M 8 3))).2.2.1 = 0) ∧ (p_all (M 6) (cl (M 8 3))).1 6 = r ∧ (q_ld M (cl (M 8 3)) (cl (M 8 0)) (cl (M 8 1))) = u) ∨ ((¬ (p_all (M 6) (cl (M 8 3))).2.2.1 = 0) ∧ 0 = r ∧ (us (q_rd M (cl (M 8 3))) 8 2 1) = u)) r2 M2) : M2 8 2 = r ∧ (r = 0 → fW f v 0 = r2.toInt64) ∧ REL (c + 1) (zW (fun w => zLd z t) (fun _ => zLf z t) v) M2 := by
  obtain ⟨il, o1, o2, o3, o4⟩ := h.2.2.2.1
  have ho : cl (M 8 3) = il := by rw [o3, cl_n (by omega)]
  rw [ho] at h2
  have hQ := QP.al_z (f := zfi z) (f' := M 6) o4 o1 (zD z)
  have et : c_txt (zfi z) il (s_clear (zD z)) = t := by rw [ht, ztx, o2]
  rw [et] at hQ
  unfold q_ld q_rd at h2
  generalize p_all (M 6) il = T at h2 hQ
  clear et ht
  have ec := hQ.ec
  cases v with
  | inl uu =>
    obtain ⟨hr, p1, p2⟩ := hv
    rcases h2 with ⟨d1, d2, d3⟩ | ⟨d1, -⟩
    · have hS : SR (dB (c + 1)) t.1 T.1 := (hQ.2.2 d1).mono (by unfold dB; omega)
      have h9 : t.1 16 9 = T.1 6 := hS.1.1 9 (by decide)
      have hL := h.ldz il hQ.1 hS
      rw [d3] at hL
      have e2 := ld_82 M il (cl (M 8 0)) (cl (M 8 1)) T
      rw [d3] at e2
      refine ⟨e2.trans hr.symm, fun _ => ?_, hL⟩
      rw [← d2, ← h9, ← p2]
      rfl
    · exact absurd (ec.trans p1) d1
  | inr uu =>
    obtain ⟨p1, hr⟩ := hv
    rcases h2 with ⟨d1, -⟩ | ⟨d1, d2, d3⟩
    · exact absurd (ec.symm.trans d1) p1
    · have hL := (h.next rfl rfl rfl rfl rfl rfl (fun _ _ => rfl)).rd il hQ.1 1
      have e2 := us822 (us (pX (us M 8 2 0) il T) 8 3 0) 1
      rw [d3] at hL e2
      exact ⟨e2.trans hr.symm, fun e => absurd (show (1 : Int32) = 0 from hr.symm.trans e) (by decide), hL⟩
set_option maxHeartbeats 4000000 in
theorem eq_errorCode {c : Nat} {z : OS} {M : CT} (h : REL c z M) (hc : c ≤ 600) {r r2 : Int32} (h1 : (fun r (_ : Unit) => r = (zc z)) r ()) (h2 : (fun r (_ : Unit) => r = M 8 9) r2 ()) : r = r2 := by
  exact (show r = _ from h1).trans (h.2.2.2.2.2.1.trans (show r2 = _ from h2).symm)
set_option maxHeartbeats 4000000 in
theorem eq_errorPosition {c : Nat} {z : OS} {M : CT} (h : REL c z M) (hc : c ≤ 600) {r r2 : Int32} (h1 : (fun r (_ : Unit) => r = (zp z)) r ()) (h2 : (fun r (_ : Unit) => r = M 8 10) r2 ()) : r = r2 := by
  exact (show r = _ from h1).trans (h.2.2.2.2.2.2.trans (show r2 = _ from h2).symm)
set_option maxHeartbeats 4000000 in
theorem eq_day {c : Nat} {z : OS} {M : CT} (h : REL c z M) (hc : c ≤ 600) {r r2 : Int32} (h1 : (fun r (_ : Unit) => r = (zS z) 16 0) r ()) (h2 : (fun r (_ : Unit) => r = M 0 5) r2 ()) : r = r2 := by
  exact (show r = _ from h1).trans ((h.1.1.1 0 (by decide)).trans (show r2 = _ from h2).symm)
set_option maxHeartbeats 4000000 in
theorem eq_seed {c : Nat} {z : OS} {M : CT} (h : REL c z M) (hc : c ≤ 600) {r r2 : Int32} (h1 : (fun r (_ : Unit) => r = (zS z) 16 11) r ()) (h2 : (fun r (_ : Unit) => r = M 0 0) r2 ()) : r = r2 := by
  exact (show r = _ from h1).trans ((h.1.1.1 11 (by decide)).trans (show r2 = _ from h2).symm)
set_option maxHeartbeats 4000000 in
theorem eq_coins {c : Nat} {z : OS} {M : CT} (h : REL c z M) (hc : c ≤ 600) {r r2 : Int32} (h1 : (fun r (_ : Unit) => r = (zS z) 16 1) r ()) (h2 : (fun r (_ : Unit) => r = M 0 4) r2 ()) : r = r2 := by
  exact (show r = _ from h1).trans ((h.1.1.1 1 (by decide)).trans (show r2 = _ from h2).symm)
set_option maxHeartbeats 4000000 in
theorem eq_villageCount {c : Nat} {z : OS} {M : CT} (h : REL c z M) (hc : c ≤ 600) {r r2 : Int32} (h1 : (fun r (_ : Unit) => r = (zS z) 16 9) r ()) (h2 : (fun r (_ : Unit) => r = M 0 6) r2 ()) : r = r2 := by
  exact (show r = _ from h1).trans ((h.1.1.1 9 (by decide)).trans (show r2 = _ from h2).symm)
set_option maxHeartbeats 4000000 in
theorem eq_fairCount {c : Nat} {z : OS} {M : CT} (h : REL c z M) (hc : c ≤ 600) {r r2 : Int32} (h1 : (fun r (_ : Unit) => r = (zS z) 16 10) r ()) (h2 : (fun r (_ : Unit) => r = M 0 7) r2 ()) : r = r2 := by
  exact (show r = _ from h1).trans ((h.1.1.1 10 (by decide)).trans (show r2 = _ from h2).symm)
set_option maxHeartbeats 4000000 in
theorem eq_findName {c : Nat} {z : OS} {M : CT} (h : REL c z M) (hc : c ≤ 600) {r r2 : Int32} (h1 : (fun r9 (_ : Unit) => r9 = s_find (zS z) (b_nm (zfi z) (zi z).2 0 (zi z).2)) r ()) (h2 : (fun r (_ : Unit) => r = m_findName (M 0) (M 6) (cl (M 8 3)) (m_vc (M 0)) (m_fc (M 0))) r2 ()) : r = r2 := by
  have hV : vcO (zS z) = m_vc (M 0) := h.1.1.vc
  have hF : fcO (zS z) = m_fc (M 0) := h.1.1.fc
  have hB : bcO (zS z) = m_bc (M 0) := h.1.1.bc
  have hMc : mcO (zS z) = m_mc (M 0) := h.1.1.mc
  have bV := h.vc.2
  have bF := h.fc.2
  have bB := h.bc.2
  have bM := h.mc.2
  obtain ⟨hX, hY⟩ := h.1.xc
  have hD : dB c ≤ 1000000 := by unfold dB; omega
  obtain ⟨il, o1, o2, o3, o4⟩ := h.2.2.2.1
  have ho : cl (M 8 3) = il := by rw [o3, cl_n (by omega)]
  have e1 : r = _ := h1
  have e2 : r2 = _ := h2
  rw [e1, e2, o2, ho]
  exact hX.find (fun j hj => o4 j hj)
set_option maxHeartbeats 4000000 in
theorem eq_peopleOf {c : Nat} {z : OS} {M : CT} (h : REL c z M) (hc : c ≤ 600) {f : Nat → Int64} (z1 : Int32) {r : Int32} {v : (Int32 × Nat) ⊕ Unit} {r2 : Int32} {M2 : CT} (hv : wP (fun _ => 1) (fun r (w : Nat) => w < vcO (zS z) ∧ z1 = nI w ∧ r = (zS z) 1 w) (fun (_ : Unit) => ¬ (¬ z1 < 0 ∧ z1 < nI (vcO (zS z)))) r v) (h2 : (fun r (u : CT) => ((inr z1 (m_vc (M 0))) ∧ M 0 (25 + 3 * cl z1) = r ∧ (us M 8 2 0) = u) ∨ ((¬ inr z1 (m_vc (M 0))) ∧ 0 = r ∧ (us M 8 2 1) = u)) r2 M2) : M2 8 2 = r ∧ (r = 0 → fW f v 0 = r2.toInt64) ∧ REL (c + 1) (zW (fun w => z) (fun _ => z) v) M2 := by
  have hV : vcO (zS z) = m_vc (M 0) := h.1.1.vc
  have hF : fcO (zS z) = m_fc (M 0) := h.1.1.fc
  have hB : bcO (zS z) = m_bc (M 0) := h.1.1.bc
  have hMc : mcO (zS z) = m_mc (M 0) := h.1.1.mc
  have bV := h.vc.2
  have bF := h.fc.2
  have bB := h.bc.2
  have bM := h.mc.2
  obtain ⟨hX, hY⟩ := h.1.xc
  have hD : dB c ≤ 1000000 := by unfold dB; omega
  try simp only [hV, hF, hB, hMc] at hv ⊢
  refine q2 (C := inr z1 (m_vc (M 0))) h hv h2 (fun r w p => ?_) (fun _ p => p)
  obtain ⟨p1, rfl, p3⟩ := p
  refine ⟨inr_n (by omega) p1, ?_, us822 M 0, h.thr 0⟩
  rw [p3, cl_n (by omega)]
  exact hX.1.v1 w p1
set_option maxHeartbeats 4000000 in
theorem eq_trustOf {c : Nat} {z : OS} {M : CT} (h : REL c z M) (hc : c ≤ 600) {f : Nat → Int64} (z1 : Int32) {r : Int32} {v : (Int32 × Nat) ⊕ Unit} {r2 : Int32} {M2 : CT} (hv : wP (fun _ => 1) (fun r (w : Nat) => w < vcO (zS z) ∧ z1 = nI w ∧ r = (zS z) 2 w) (fun (_ : Unit) => ¬ (¬ z1 < 0 ∧ z1 < nI (vcO (zS z)))) r v) (h2 : (fun r (u : CT) => ((inr z1 (m_vc (M 0))) ∧ M 0 (26 + 3 * cl z1) = r ∧ (us M 8 2 0) = u) ∨ ((¬ inr z1 (m_vc (M 0))) ∧ 0 = r ∧ (us M 8 2 1) = u)) r2 M2) : M2 8 2 = r ∧ (r = 0 → fW f v 0 = r2.toInt64) ∧ REL (c + 1) (zW (fun w => z) (fun _ => z) v) M2 := by
  have hV : vcO (zS z) = m_vc (M 0) := h.1.1.vc
  have hF : fcO (zS z) = m_fc (M 0) := h.1.1.fc
  have hB : bcO (zS z) = m_bc (M 0) := h.1.1.bc
  have hMc : mcO (zS z) = m_mc (M 0) := h.1.1.mc
  have bV := h.vc.2
  have bF := h.fc.2
  have bB := h.bc.2
  have bM := h.mc.2
  obtain ⟨hX, hY⟩ := h.1.xc
  have hD : dB c ≤ 1000000 := by unfold dB; omega
  try simp only [hV, hF, hB, hMc] at hv ⊢
  refine q2 (C := inr z1 (m_vc (M 0))) h hv h2 (fun r w p => ?_) (fun _ p => p)
  obtain ⟨p1, rfl, p3⟩ := p
  refine ⟨inr_n (by omega) p1, ?_, us822 M 0, h.thr 0⟩
  rw [p3, cl_n (by omega)]
  exact hX.1.v2 w p1
set_option maxHeartbeats 4000000 in
theorem eq_forecastsFor {c : Nat} {z : OS} {M : CT} (h : REL c z M) (hc : c ≤ 600) {f : Nat → Int64} (z1 : Int32) {r : Int32} {v : (Int32 × Unit) ⊕ Unit} {r2 : Int32} {M2 : CT} (hv : wP (fun _ => 1) (fun r (_ : Unit) => (¬ z1 < 0 ∧ z1 < nI (vcO (zS z))) ∧ r = s_countFor (zS z) z1 (bcO (zS z))) (fun (_ : Unit) => ¬ (¬ z1 < 0 ∧ z1 < nI (vcO (zS z)))) r v) (h2 : (fun r (u : CT) => ((inr z1 (m_vc (M 0))) ∧ fo (fun k s => if M 0 (72 + 5 * k) = z1 then s + 1 else s) 0 (m_bc (M 0)) 0 = r ∧ (us M 8 2 0) = u) ∨ ((¬ inr z1 (m_vc (M 0))) ∧ 0 = r ∧ (us M 8 2 1) = u)) r2 M2) : M2 8 2 = r ∧ (r = 0 → fW f v 0 = r2.toInt64) ∧ REL (c + 1) (zW (fun w => z) (fun _ => z) v) M2 := by
  have hV : vcO (zS z) = m_vc (M 0) := h.1.1.vc
  have hF : fcO (zS z) = m_fc (M 0) := h.1.1.fc
  have hB : bcO (zS z) = m_bc (M 0) := h.1.1.bc
  have hMc : mcO (zS z) = m_mc (M 0) := h.1.1.mc
  have bV := h.vc.2
  have bF := h.fc.2
  have bB := h.bc.2
  have bM := h.mc.2
  obtain ⟨hX, hY⟩ := h.1.xc
  have hD : dB c ≤ 1000000 := by unfold dB; omega
  try simp only [hV, hF, hB, hMc] at hv ⊢
  refine q2 (C := inr z1 (m_vc (M 0))) h hv h2 (fun r w p => ⟨p.1, ?_, us822 M 0, h.thr 0⟩) (fun _ p => p)
  rw [p.2]
  exact fo_congr _ _ _ (fun j s _ hj => by rw [hX.1.b10 j (by omega)])
set_option maxHeartbeats 4000000 in
theorem eq_fairVillage {c : Nat} {z : OS} {M : CT} (h : REL c z M) (hc : c ≤ 600) {f : Nat → Int64} (z1 : Int32) {r : Int32} {v : (Int32 × Nat) ⊕ Unit} {r2 : Int32} {M2 : CT} (hv : wP (fun _ => 1) (fun r (w : Nat) => w < fcO (zS z) ∧ z1 = nI w ∧ r = (zS z) 4 w) (fun (_ : Unit) => ¬ (¬ z1 < 0 ∧ z1 < nI (fcO (zS z)))) r v) (h2 : (fun r (u : CT) => ((inr z1 (m_fc (M 0))) ∧ M 0 (43 + 5 * cl z1) = r ∧ (us M 8 2 0) = u) ∨ ((¬ inr z1 (m_fc (M 0))) ∧ 0 = r ∧ (us M 8 2 1) = u)) r2 M2) : M2 8 2 = r ∧ (r = 0 → fW f v 0 = r2.toInt64) ∧ REL (c + 1) (zW (fun w => z) (fun _ => z) v) M2 := by
  have hV : vcO (zS z) = m_vc (M 0) := h.1.1.vc
  have hF : fcO (zS z) = m_fc (M 0) := h.1.1.fc
  have hB : bcO (zS z) = m_bc (M 0) := h.1.1.bc
  have hMc : mcO (zS z) = m_mc (M 0) := h.1.1.mc
  have bV := h.vc.2
  have bF := h.fc.2
  have bB := h.bc.2
  have bM := h.mc.2
  obtain ⟨hX, hY⟩ := h.1.xc
  have hD : dB c ≤ 1000000 := by unfold dB; omega
  try simp only [hV, hF, hB, hMc] at hv ⊢
  refine q2 (C := inr z1 (m_fc (M 0))) h hv h2 (fun r w p => ?_) (fun _ p => p)
  obtain ⟨p1, rfl, p3⟩ := p
  refine ⟨inr_n (by omega) p1, ?_, us822 M 0, h.thr 0⟩
  rw [p3, cl_n (by omega)]
  exact hX.1.f4 w p1
set_option maxHeartbeats 4000000 in
theorem eq_periodOf {c : Nat} {z : OS} {M : CT} (h : REL c z M) (hc : c ≤ 600) {f : Nat → Int64} (z1 : Int32) {r : Int32} {v : (Int32 × Nat) ⊕ Unit} {r2 : Int32} {M2 : CT} (hv : wP (fun _ => 1) (fun r (w : Nat) => w < fcO (zS z) ∧ z1 = nI w ∧ r = (zS z) 5 w) (fun (_ : Unit) => ¬ (¬ z1 < 0 ∧ z1 < nI (fcO (zS z)))) r v) (h2 : (fun r (u : CT) => ((inr z1 (m_fc (M 0))) ∧ M 0 (44 + 5 * cl z1) = r ∧ (us M 8 2 0) = u) ∨ ((¬ inr z1 (m_fc (M 0))) ∧ 0 = r ∧ (us M 8 2 1) = u)) r2 M2) : M2 8 2 = r ∧ (r = 0 → fW f v 0 = r2.toInt64) ∧ REL (c + 1) (zW (fun w => z) (fun _ => z) v) M2 := by
  have hV : vcO (zS z) = m_vc (M 0) := h.1.1.vc
  have hF : fcO (zS z) = m_fc (M 0) := h.1.1.fc
  have hB : bcO (zS z) = m_bc (M 0) := h.1.1.bc
  have hMc : mcO (zS z) = m_mc (M 0) := h.1.1.mc
  have bV := h.vc.2
  have bF := h.fc.2
  have bB := h.bc.2
  have bM := h.mc.2
  obtain ⟨hX, hY⟩ := h.1.xc
  have hD : dB c ≤ 1000000 := by unfold dB; omega
  try simp only [hV, hF, hB, hMc] at hv ⊢
  refine q2 (C := inr z1 (m_fc (M 0))) h hv h2 (fun r w p => ?_) (fun _ p => p)
  obtain ⟨p1, rfl, p3⟩ := p
  refine ⟨inr_n (by omega) p1, ?_, us822 M 0, h.thr 0⟩
  rw [p3, cl_n (by omega)]
  exact hX.1.f5 w p1
set_option maxHeartbeats 4000000 in
theorem eq_stockOf {c : Nat} {z : OS} {M : CT} (h : REL c z M) (hc : c ≤ 600) {f : Nat → Int64} (z1 : Int32) {r : Int32} {v : (Int32 × Nat) ⊕ Unit} {r2 : Int32} {M2 : CT} (hv : wP (fun _ => 1) (fun r (w : Nat) => w < fcO (zS z) ∧ z1 = nI w ∧ r = (zS z) 6 w) (fun (_ : Unit) => ¬ (¬ z1 < 0 ∧ z1 < nI (fcO (zS z)))) r v) (h2 : (fun r (u : CT) => ((inr z1 (m_fc (M 0))) ∧ M 0 (45 + 5 * cl z1) = r ∧ (us M 8 2 0) = u) ∨ ((¬ inr z1 (m_fc (M 0))) ∧ 0 = r ∧ (us M 8 2 1) = u)) r2 M2) : M2 8 2 = r ∧ (r = 0 → fW f v 0 = r2.toInt64) ∧ REL (c + 1) (zW (fun w => z) (fun _ => z) v) M2 := by
  have hV : vcO (zS z) = m_vc (M 0) := h.1.1.vc
  have hF : fcO (zS z) = m_fc (M 0) := h.1.1.fc
  have hB : bcO (zS z) = m_bc (M 0) := h.1.1.bc
  have hMc : mcO (zS z) = m_mc (M 0) := h.1.1.mc
  have bV := h.vc.2
  have bF := h.fc.2
  have bB := h.bc.2
  have bM := h.mc.2
  obtain ⟨hX, hY⟩ := h.1.xc
  have hD : dB c ≤ 1000000 := by unfold dB; omega
  try simp only [hV, hF, hB, hMc] at hv ⊢
  refine q2 (C := inr z1 (m_fc (M 0))) h hv h2 (fun r w p => ?_) (fun _ p => p)
  obtain ⟨p1, rfl, p3⟩ := p
  refine ⟨inr_n (by omega) p1, ?_, us822 M 0, h.thr 0⟩
  rw [p3, cl_n (by omega)]
  exact hX.1.f6 w p1
set_option maxHeartbeats 4000000 in
theorem eq_priceOf {c : Nat} {z : OS} {M : CT} (h : REL c z M) (hc : c ≤ 600) {f : Nat → Int64} (z1 : Int32) {r : Int32} {v : (Int32 × Nat) ⊕ Unit} {r2 : Int32} {M2 : CT} (hv : wP (fun _ => 1) (fun r (w : Nat) => w < fcO (zS z) ∧ z1 = nI w ∧ r = (zS z) 7 w) (fun (_ : Unit) => ¬ (¬ z1 < 0 ∧ z1 < nI (fcO (zS z)))) r v) (h2 : (fun r (u : CT) => ((inr z1 (m_fc (M 0))) ∧ M 0 (46 + 5 * cl z1) = r ∧ (us M 8 2 0) = u) ∨ ((¬ inr z1 (m_fc (M 0))) ∧ 0 = r ∧ (us M 8 2 1) = u)) r2 M2) : M2 8 2 = r ∧ (r = 0 → fW f v 0 = r2.toInt64) ∧ REL (c + 1) (zW (fun w => z) (fun _ => z) v) M2 := by
  have hV : vcO (zS z) = m_vc (M 0) := h.1.1.vc
  have hF : fcO (zS z) = m_fc (M 0) := h.1.1.fc
  have hB : bcO (zS z) = m_bc (M 0) := h.1.1.bc
  have hMc : mcO (zS z) = m_mc (M 0) := h.1.1.mc
  have bV := h.vc.2
  have bF := h.fc.2
  have bB := h.bc.2
  have bM := h.mc.2
  obtain ⟨hX, hY⟩ := h.1.xc
  have hD : dB c ≤ 1000000 := by unfold dB; omega
  try simp only [hV, hF, hB, hMc] at hv ⊢
  refine q2 (C := inr z1 (m_fc (M 0))) h hv h2 (fun r w p => ?_) (fun _ p => p)
  obtain ⟨p1, rfl, p3⟩ := p
  refine ⟨inr_n (by omega) p1, ?_, us822 M 0, h.thr 0⟩
  rw [p3, cl_n (by omega)]
  exact hX.1.f7 w p1
set_option maxHeartbeats 4000000 in
theorem eq_daysUntilFair {c : Nat} {z : OS} {M : CT} (h : REL c z M) (hc : c ≤ 600) {f : Nat → Int64} (z1 : Int32) {r : Int32} {v : (Int32 × Nat) ⊕ Unit} {r2 : Int32} {M2 : CT} (hv : wP (fun _ => 1) (fun r (w : Nat) => w < fcO (zS z) ∧ z1 = nI w ∧ r = s_daysUntil (zS z) w ((zS z) 16 0)) (fun (_ : Unit) => ¬ (¬ z1 < 0 ∧ z1 < nI (fcO (zS z)))) r v) (h2 : (fun r (u : CT) => ((inr z1 (m_fc (M 0))) ∧ nI (m_per (M 0) (cl z1) - ((cl (M 0 5)) + cl z1) % m_per (M 0) (cl z1)) = r ∧ (us M 8 2 0) = u) ∨ ((¬ inr z1 (m_fc (M 0))) ∧ 0 = r ∧ (us M 8 2 1) = u)) r2 M2) : M2 8 2 = r ∧ (r = 0 → fW f v 0 = r2.toInt64) ∧ REL (c + 1) (zW (fun w => z) (fun _ => z) v) M2 := by
  have hV : vcO (zS z) = m_vc (M 0) := h.1.1.vc
  have hF : fcO (zS z) = m_fc (M 0) := h.1.1.fc
  have hB : bcO (zS z) = m_bc (M 0) := h.1.1.bc
  have hMc : mcO (zS z) = m_mc (M 0) := h.1.1.mc
  have bV := h.vc.2
  have bF := h.fc.2
  have bB := h.bc.2
  have bM := h.mc.2
  obtain ⟨hX, hY⟩ := h.1.xc
  have hD : dB c ≤ 1000000 := by unfold dB; omega
  try simp only [hV, hF, hB, hMc] at hv ⊢
  refine q2 (C := inr z1 (m_fc (M 0))) h hv h2 (fun r w p => ?_) (fun _ p => p)
  obtain ⟨p1, rfl, p3⟩ := p
  refine ⟨inr_n (by omega) p1, ?_, us822 M 0, h.thr 0⟩
  obtain ⟨d1, d2⟩ := h.dd hc
  obtain ⟨p, q1, q2, q3⟩ := hX.2.1.2.2.2.2.2.1 w p1
  have hm := Nat.mod_lt (cl (M 0 5) + w) (show 0 < p by omega)
  have h5 : zS z 16 0 = M 0 5 := hX.1.c16 0 (by decide)
  rw [p3, cl_n (by omega), m_per, q3, cl_n (by omega), s_daysUntil, hX.1.f5 w p1, q3, h5, if_pos (show (1 : Int32) ≤ nI p from (nI_leI (a := 1) (by omega) (by omega)).mpr q1)]
  conv => lhs; rw [d1]
  rw [nI_add, imod_nat (by omega) (by omega) (by omega), pk_sub (by omega)]
set_option maxHeartbeats 4000000 in
theorem eq_oddsOf {c : Nat} {z : OS} {M : CT} (h : REL c z M) (hc : c ≤ 600) {f : Nat → Int64} (z1 : Int32) {r : Int32} {v : (Int32 × Nat) ⊕ Unit} {r2 : Int32} {M2 : CT} (hv : wP (fun _ => 1) (fun r (w : Nat) => w < 3 ∧ z1 = nI w ∧ r = (zS z) 8 w) (fun (_ : Unit) => ¬ (¬ z1 < 0 ∧ ¬ 2 < z1)) r v) (h2 : (fun r (u : CT) => ((inr z1 3) ∧ M 0 (1 + cl z1) = r ∧ (us M 8 2 0) = u) ∨ ((¬ inr z1 3) ∧ 0 = r ∧ (us M 8 2 1) = u)) r2 M2) : M2 8 2 = r ∧ (r = 0 → fW f v 0 = r2.toInt64) ∧ REL (c + 1) (zW (fun w => z) (fun _ => z) v) M2 := by
  have hV : vcO (zS z) = m_vc (M 0) := h.1.1.vc
  have hF : fcO (zS z) = m_fc (M 0) := h.1.1.fc
  have hB : bcO (zS z) = m_bc (M 0) := h.1.1.bc
  have hMc : mcO (zS z) = m_mc (M 0) := h.1.1.mc
  have bV := h.vc.2
  have bF := h.fc.2
  have bB := h.bc.2
  have bM := h.mc.2
  obtain ⟨hX, hY⟩ := h.1.xc
  have hD : dB c ≤ 1000000 := by unfold dB; omega
  try simp only [hV, hF, hB, hMc] at hv ⊢
  refine q2 (C := inr z1 3) h hv h2 (fun r w p => ?_) (fun _ p q => p ((in3 z1).mpr q))
  obtain ⟨p1, rfl, p3⟩ := p
  refine ⟨inr_n (by omega) p1, ?_, us822 M 0, h.thr 0⟩
  rw [p3, cl_n (by omega)]
  exact hX.1.odds w p1
set_option maxHeartbeats 4000000 in
theorem eq_chanceOf {c : Nat} {z : OS} {M : CT} (h : REL c z M) (hc : c ≤ 600) (z1 : Int32) {r : Int32} {v : (UInt64 × Nat) ⊕ Unit} {r2 : UInt64} {M2 : CT} (hv : wP (fun _ => 1) (fun r9 (w : Nat) => (w < 3 ∧ z1 = nI w) ∧ r9 = fd_ratio ((zS z) 8 w) (s_sumO (zS z))) (fun (_ : Unit) => ¬ (¬ z1 < 0 ∧ ¬ 2 < z1)) r v) (h2 : (fun r9 (u : CT) => ((inr z1 3) ∧ r9 = FP.ddiv (FP.i2d (M 0 (1 + cl z1))) (FP.i2d (m_allOdds (M 0))) ∧ us M 8 2 0 = u) ∨ (¬ (inr z1 3) ∧ us M 8 2 1 = u)) r2 M2) : M2 8 2 = r ∧ (r = 0 → ∃ s, v = .inl (r2, s)) ∧ REL (c + 1) (zW (fun w => z) (fun _ => z) v) M2 := by
  have hV : vcO (zS z) = m_vc (M 0) := h.1.1.vc
  have hF : fcO (zS z) = m_fc (M 0) := h.1.1.fc
  have hB : bcO (zS z) = m_bc (M 0) := h.1.1.bc
  have hMc : mcO (zS z) = m_mc (M 0) := h.1.1.mc
  have bV := h.vc.2
  have bF := h.fc.2
  have bB := h.bc.2
  have bM := h.mc.2
  obtain ⟨hX, hY⟩ := h.1.xc
  have hD : dB c ≤ 1000000 := by unfold dB; omega
  cases v with
  | inl u =>
    obtain ⟨hr, ⟨p1, rfl⟩, p3⟩ := hv
    rcases h2 with ⟨d1, d2, d3⟩ | ⟨d1, d2⟩
    · subst d3
      refine ⟨(us822 M 0).trans hr.symm, fun _ => ⟨u.2, ?_⟩, h.thr 0⟩
      have : u.1 = r2 := by
        rw [p3, d2, fd_ratio, hX.sum, if_neg h.os, hX.1.odds _ p1, cl_n (by omega)]
      rw [← this]
    · exact absurd (inr_n (by omega) p1) d1
  | inr u =>
    obtain ⟨p1, hr⟩ := hv
    rcases h2 with ⟨d1, d2, d3⟩ | ⟨d1, d2⟩
    · exact absurd ((in3 z1).mpr d1) p1
    · subst d2
      exact ⟨(us822 M 1).trans hr.symm, fun e => absurd (show (1 : Int32) = 0 from hr.symm.trans e) (by decide), h.thr _⟩
set_option maxHeartbeats 4000000 in
theorem eq_drawnThisYear {c : Nat} {z : OS} {M : CT} (h : REL c z M) (hc : c ≤ 600) {f : Nat → Int64} (z1 : Int32) {r : Int32} {v : (Int32 × Nat) ⊕ Unit} {r2 : Int32} {M2 : CT} (hv : wP (fun _ => 1) (fun r (w : Nat) => w < 3 ∧ z1 = nI w ∧ r = (zS z) 9 w) (fun (_ : Unit) => ¬ (¬ z1 < 0 ∧ ¬ 2 < z1)) r v) (h2 : (fun r (u : CT) => ((inr z1 3) ∧ M 0 (17 + cl z1) = r ∧ (us M 8 2 0) = u) ∨ ((¬ inr z1 3) ∧ 0 = r ∧ (us M 8 2 1) = u)) r2 M2) : M2 8 2 = r ∧ (r = 0 → fW f v 0 = r2.toInt64) ∧ REL (c + 1) (zW (fun w => z) (fun _ => z) v) M2 := by
  have hV : vcO (zS z) = m_vc (M 0) := h.1.1.vc
  have hF : fcO (zS z) = m_fc (M 0) := h.1.1.fc
  have hB : bcO (zS z) = m_bc (M 0) := h.1.1.bc
  have hMc : mcO (zS z) = m_mc (M 0) := h.1.1.mc
  have bV := h.vc.2
  have bF := h.fc.2
  have bB := h.bc.2
  have bM := h.mc.2
  obtain ⟨hX, hY⟩ := h.1.xc
  have hD : dB c ≤ 1000000 := by unfold dB; omega
  try simp only [hV, hF, hB, hMc] at hv ⊢
  refine q2 (C := inr z1 3) h hv h2 (fun r w p => ?_) (fun _ p q => p ((in3 z1).mpr q))
  obtain ⟨p1, rfl, p3⟩ := p
  refine ⟨inr_n (by omega) p1, ?_, us822 M 0, h.thr 0⟩
  rw [p3, cl_n (by omega)]
  exact hX.1.drw w p1
set_option maxHeartbeats 4000000 in
theorem eq_forecastCount {c : Nat} {z : OS} {M : CT} (h : REL c z M) (hc : c ≤ 600) {r r2 : Int32} (h1 : (fun r (_ : Unit) => r = (zS z) 16 12) r ()) (h2 : (fun r (_ : Unit) => r = M 0 8) r2 ()) : r = r2 := by
  exact (show r = _ from h1).trans ((h.1.1.1 12 (by decide)).trans (show r2 = _ from h2).symm)
set_option maxHeartbeats 4000000 in
theorem eq_hasForecast {c : Nat} {z : OS} {M : CT} (h : REL c z M) (hc : c ≤ 600) {f : Nat → Int64} (z1 z2 : Int32) {r : Int32} {v : (Int32 × Unit) ⊕ Unit} {r2 : Int32} {M2 : CT} (hv : wP (fun _ => 1) (fun r (_ : Unit) => (¬ z1 < 0 ∧ z1 < nI (vcO (zS z))) ∧ ((r = 1 ∧ ¬ s_placeOf (zS z) z1 z2 (bcO (zS z)) = -1) ∨ (r = 0 ∧ s_placeOf (zS z) z1 z2 (bcO (zS z)) = -1))) (fun (_ : Unit) => ¬ (¬ z1 < 0 ∧ z1 < nI (vcO (zS z)))) r v) (h2 : (fun r (u : CT) => ((inr z1 (m_vc (M 0)) ∧ m_find (M 0) z1 z2 (m_bc (M 0)) = -1) ∧ 0 = r ∧ (us M 8 2 0) = u) ∨ ((inr z1 (m_vc (M 0)) ∧ ∃ k, k < (m_bc (M 0)) ∧ m_find (M 0) z1 z2 (m_bc (M 0)) = nI k) ∧ 1 = r ∧ (us M 8 2 0) = u) ∨ ((¬ inr z1 (m_vc (M 0))) ∧ 0 = r ∧ (us M 8 2 1) = u)) r2 M2) : M2 8 2 = r ∧ (r = 0 → fWb f v 0 = if r2 = 0 then 0 else 1) ∧ REL (c + 1) (zW (fun w => z) (fun _ => z) v) M2 := by
  have hV : vcO (zS z) = m_vc (M 0) := h.1.1.vc
  have hF : fcO (zS z) = m_fc (M 0) := h.1.1.fc
  have hB : bcO (zS z) = m_bc (M 0) := h.1.1.bc
  have hMc : mcO (zS z) = m_mc (M 0) := h.1.1.mc
  have bV := h.vc.2
  have bF := h.fc.2
  have bB := h.bc.2
  have bM := h.mc.2
  obtain ⟨hX, hY⟩ := h.1.xc
  have hD : dB c ≤ 1000000 := by unfold dB; omega
  try simp only [hV, hF, hB, hMc] at hv ⊢
  refine qB (C1 := inr z1 (m_vc (M 0)) ∧ ∃ k, k < m_bc (M 0) ∧ m_find (M 0) z1 z2 (m_bc (M 0)) = nI k) (C0 := inr z1 (m_vc (M 0)) ∧ m_find (M 0) z1 z2 (m_bc (M 0)) = -1) (C := ¬ inr z1 (m_vc (M 0))) h hv ?_ (fun r w p => ⟨fun q => q p.1, ?_⟩) (fun _ p => ⟨fun q => p q.1, fun q => p q.1⟩)
  · rcases h2 with d | d | d
    · exact Or.inr (Or.inl d)
    · exact Or.inl d
    · exact Or.inr (Or.inr d)
  · obtain ⟨-, p2⟩ := p
    rw [hX.place] at p2
    rcases p2 with ⟨e1, e2⟩ | ⟨e1, e2⟩
    · exact Or.inl ⟨e1, fun q => e2 q.2⟩
    · refine Or.inr ⟨e1, fun q => ?_⟩
      obtain ⟨-, k, k1, k2⟩ := q
      rw [e2] at k2
      exact nI_ne_m1 (by omega) k2.symm
set_option maxHeartbeats 4000000 in
theorem eq_weatherOf {c : Nat} {z : OS} {M : CT} (h : REL c z M) (hc : c ≤ 600) {f : Nat → Int64} (z1 z2 : Int32) {r : Int32} {v : (Int32 × Nat) ⊕ Nat} {r2 : Int32} {M2 : CT} (hv : wP (fun u => if ((fun u => if u = 0 then eIOOB else eNSE) u) = eIOOB then 1 else 2) (fun r (w : Nat) => (¬ z1 < 0 ∧ z1 < nI (vcO (zS z))) ∧ w < bcO (zS z) ∧ s_placeOf (zS z) z1 z2 (bcO (zS z)) = nI w ∧ r = (zS z) 12 w) (fun (u : Nat) => (u = 0 ∧ ¬ (¬ z1 < 0 ∧ z1 < nI (vcO (zS z)))) ∨ (u = 1 ∧ (¬ z1 < 0 ∧ z1 < nI (vcO (zS z))) ∧ s_placeOf (zS z) z1 z2 (bcO (zS z)) = -1)) r v) (h2 : (fun r (u : CT) => ((inr z1 (m_vc (M 0)) ∧ ∃ k, k < (m_bc (M 0)) ∧ m_find (M 0) z1 z2 (m_bc (M 0)) = nI k) ∧ M 0 (74 + 5 * cl (m_find (M 0) z1 z2 (m_bc (M 0)))) = r ∧ (us M 8 2 0) = u) ∨ ((¬ inr z1 (m_vc (M 0))) ∧ 0 = r ∧ (us M 8 2 1) = u) ∨ ((inr z1 (m_vc (M 0)) ∧ m_find (M 0) z1 z2 (m_bc (M 0)) = -1) ∧ 0 = r ∧ (us M 8 2 2) = u)) r2 M2) : M2 8 2 = r ∧ (r = 0 → fW f v 0 = r2.toInt64) ∧ REL (c + 1) (zW (fun w => z) (fun _ => z) v) M2 := by
  have hV : vcO (zS z) = m_vc (M 0) := h.1.1.vc
  have hF : fcO (zS z) = m_fc (M 0) := h.1.1.fc
  have hB : bcO (zS z) = m_bc (M 0) := h.1.1.bc
  have hMc : mcO (zS z) = m_mc (M 0) := h.1.1.mc
  have bV := h.vc.2
  have bF := h.fc.2
  have bB := h.bc.2
  have bM := h.mc.2
  obtain ⟨hX, hY⟩ := h.1.xc
  have hD : dB c ≤ 1000000 := by unfold dB; omega
  try simp only [hV, hF, hB, hMc] at hv ⊢
  refine qN (C := (inr z1 (m_vc (M 0)) ∧ ∃ k, k < m_bc (M 0) ∧ m_find (M 0) z1 z2 (m_bc (M 0)) = nI k)) (E := (fun w => (w = 1 ∧ ¬ inr z1 (m_vc (M 0))) ∨ (w = 2 ∧ inr z1 (m_vc (M 0)) ∧ m_find (M 0) z1 z2 (m_bc (M 0)) = -1))) (val := M 0 (74 + 5 * cl (m_find (M 0) z1 z2 (m_bc (M 0))))) (N := us M 8 2 0) h hv ?_ (fun r w p => ?_) (fun w p => ?_) (fun w => ?_)
  · rcases h2 with d | ⟨d1, d2⟩ | ⟨d1, d2⟩
    · exact Or.inl d
    · exact Or.inr ⟨1, Or.inl ⟨rfl, d1⟩, d2⟩
    · exact Or.inr ⟨2, Or.inr ⟨rfl, d1⟩, d2⟩
  · obtain ⟨p1, p2, p3, p4⟩ := p
    rw [hX.place] at p3
    refine ⟨fun w9 e => ?_, ?_, us822 M 0, h.thr 0⟩
    · rcases e with ⟨-, e⟩ | ⟨-, -, e⟩
      · exact e p1
      · rw [p3] at e; exact nI_ne_m1 (by omega) e
    · rw [p4, p3, cl_n (by omega)]
      exact hX.1.b12 w p2
  · rw [hX.place] at p
    rcases p with ⟨rfl, p1⟩ | ⟨rfl, p1, p2⟩
    · refine ⟨fun q => p1 q.1, fun w9 e => ?_⟩
      rcases e with ⟨e, -⟩ | ⟨-, e, -⟩
      · rw [e]; decide +kernel
      · exact absurd e p1
    · refine ⟨fun q => ?_, fun w9 e => ?_⟩
      · obtain ⟨-, k, k1, k2⟩ := q
        rw [p2] at k2
        exact nI_ne_m1 (by omega) k2.symm
      · rcases e with ⟨-, e⟩ | ⟨e, -⟩
        · exact absurd p1 e
        · rw [e]; decide +kernel
  · show ¬ (if _ = _ then (1 : Int32) else 2) = 0
    split <;> decide
set_option maxHeartbeats 4000000 in
theorem eq_soldOf {c : Nat} {z : OS} {M : CT} (h : REL c z M) (hc : c ≤ 600) {f : Nat → Int64} (z1 z2 : Int32) {r : Int32} {v : (Int32 × Nat) ⊕ Nat} {r2 : Int32} {M2 : CT} (hv : wP (fun u => if ((fun u => if u = 0 then eIOOB else eNSE) u) = eIOOB then 1 else 2) (fun r (w : Nat) => (¬ z1 < 0 ∧ z1 < nI (vcO (zS z))) ∧ w < bcO (zS z) ∧ s_placeOf (zS z) z1 z2 (bcO (zS z)) = nI w ∧ r = (zS z) 13 w) (fun (u : Nat) => (u = 0 ∧ ¬ (¬ z1 < 0 ∧ z1 < nI (vcO (zS z)))) ∨ (u = 1 ∧ (¬ z1 < 0 ∧ z1 < nI (vcO (zS z))) ∧ s_placeOf (zS z) z1 z2 (bcO (zS z)) = -1)) r v) (h2 : (fun r (u : CT) => ((inr z1 (m_vc (M 0)) ∧ ∃ k, k < (m_bc (M 0)) ∧ m_find (M 0) z1 z2 (m_bc (M 0)) = nI k) ∧ M 0 (75 + 5 * cl (m_find (M 0) z1 z2 (m_bc (M 0)))) = r ∧ (us M 8 2 0) = u) ∨ ((¬ inr z1 (m_vc (M 0))) ∧ 0 = r ∧ (us M 8 2 1) = u) ∨ ((inr z1 (m_vc (M 0)) ∧ m_find (M 0) z1 z2 (m_bc (M 0)) = -1) ∧ 0 = r ∧ (us M 8 2 2) = u)) r2 M2) : M2 8 2 = r ∧ (r = 0 → fW f v 0 = r2.toInt64) ∧ REL (c + 1) (zW (fun w => z) (fun _ => z) v) M2 := by
  have hV : vcO (zS z) = m_vc (M 0) := h.1.1.vc
  have hF : fcO (zS z) = m_fc (M 0) := h.1.1.fc
  have hB : bcO (zS z) = m_bc (M 0) := h.1.1.bc
  have hMc : mcO (zS z) = m_mc (M 0) := h.1.1.mc
  have bV := h.vc.2
  have bF := h.fc.2
  have bB := h.bc.2
  have bM := h.mc.2
  obtain ⟨hX, hY⟩ := h.1.xc
  have hD : dB c ≤ 1000000 := by unfold dB; omega
  try simp only [hV, hF, hB, hMc] at hv ⊢
  refine qN (C := (inr z1 (m_vc (M 0)) ∧ ∃ k, k < m_bc (M 0) ∧ m_find (M 0) z1 z2 (m_bc (M 0)) = nI k)) (E := (fun w => (w = 1 ∧ ¬ inr z1 (m_vc (M 0))) ∨ (w = 2 ∧ inr z1 (m_vc (M 0)) ∧ m_find (M 0) z1 z2 (m_bc (M 0)) = -1))) (val := M 0 (75 + 5 * cl (m_find (M 0) z1 z2 (m_bc (M 0))))) (N := us M 8 2 0) h hv ?_ (fun r w p => ?_) (fun w p => ?_) (fun w => ?_)
  · rcases h2 with d | ⟨d1, d2⟩ | ⟨d1, d2⟩
    · exact Or.inl d
    · exact Or.inr ⟨1, Or.inl ⟨rfl, d1⟩, d2⟩
    · exact Or.inr ⟨2, Or.inr ⟨rfl, d1⟩, d2⟩
  · obtain ⟨p1, p2, p3, p4⟩ := p
    rw [hX.place] at p3
    refine ⟨fun w9 e => ?_, ?_, us822 M 0, h.thr 0⟩
    · rcases e with ⟨-, e⟩ | ⟨-, -, e⟩
      · exact e p1
      · rw [p3] at e; exact nI_ne_m1 (by omega) e
    · rw [p4, p3, cl_n (by omega)]
      exact hX.1.b13 w p2
  · rw [hX.place] at p
    rcases p with ⟨rfl, p1⟩ | ⟨rfl, p1, p2⟩
    · refine ⟨fun q => p1 q.1, fun w9 e => ?_⟩
      rcases e with ⟨e, -⟩ | ⟨-, e, -⟩
      · rw [e]; decide +kernel
      · exact absurd e p1
    · refine ⟨fun q => ?_, fun w9 e => ?_⟩
      · obtain ⟨-, k, k1, k2⟩ := q
        rw [p2] at k2
        exact nI_ne_m1 (by omega) k2.symm
      · rcases e with ⟨-, e⟩ | ⟨e, -⟩
        · exact absurd p1 e
        · rw [e]; decide +kernel
  · show ¬ (if _ = _ then (1 : Int32) else 2) = 0
    split <;> decide
set_option maxHeartbeats 4000000 in
theorem eq_paidOf {c : Nat} {z : OS} {M : CT} (h : REL c z M) (hc : c ≤ 600) {f : Nat → Int64} (z1 z2 : Int32) {r : Int32} {v : (Int32 × Nat) ⊕ Nat} {r2 : Int32} {M2 : CT} (hv : wP (fun u => if ((fun u => if u = 0 then eIOOB else eNSE) u) = eIOOB then 1 else 2) (fun r (w : Nat) => (¬ z1 < 0 ∧ z1 < nI (vcO (zS z))) ∧ w < bcO (zS z) ∧ s_placeOf (zS z) z1 z2 (bcO (zS z)) = nI w ∧ r = (zS z) 14 w) (fun (u : Nat) => (u = 0 ∧ ¬ (¬ z1 < 0 ∧ z1 < nI (vcO (zS z)))) ∨ (u = 1 ∧ (¬ z1 < 0 ∧ z1 < nI (vcO (zS z))) ∧ s_placeOf (zS z) z1 z2 (bcO (zS z)) = -1)) r v) (h2 : (fun r (u : CT) => ((inr z1 (m_vc (M 0)) ∧ ∃ k, k < (m_bc (M 0)) ∧ m_find (M 0) z1 z2 (m_bc (M 0)) = nI k) ∧ M 0 (76 + 5 * cl (m_find (M 0) z1 z2 (m_bc (M 0)))) = r ∧ (us M 8 2 0) = u) ∨ ((¬ inr z1 (m_vc (M 0))) ∧ 0 = r ∧ (us M 8 2 1) = u) ∨ ((inr z1 (m_vc (M 0)) ∧ m_find (M 0) z1 z2 (m_bc (M 0)) = -1) ∧ 0 = r ∧ (us M 8 2 2) = u)) r2 M2) : M2 8 2 = r ∧ (r = 0 → fW f v 0 = r2.toInt64) ∧ REL (c + 1) (zW (fun w => z) (fun _ => z) v) M2 := by
  have hV : vcO (zS z) = m_vc (M 0) := h.1.1.vc
  have hF : fcO (zS z) = m_fc (M 0) := h.1.1.fc
  have hB : bcO (zS z) = m_bc (M 0) := h.1.1.bc
  have hMc : mcO (zS z) = m_mc (M 0) := h.1.1.mc
  have bV := h.vc.2
  have bF := h.fc.2
  have bB := h.bc.2
  have bM := h.mc.2
  obtain ⟨hX, hY⟩ := h.1.xc
  have hD : dB c ≤ 1000000 := by unfold dB; omega
  try simp only [hV, hF, hB, hMc] at hv ⊢
  refine qN (C := (inr z1 (m_vc (M 0)) ∧ ∃ k, k < m_bc (M 0) ∧ m_find (M 0) z1 z2 (m_bc (M 0)) = nI k)) (E := (fun w => (w = 1 ∧ ¬ inr z1 (m_vc (M 0))) ∨ (w = 2 ∧ inr z1 (m_vc (M 0)) ∧ m_find (M 0) z1 z2 (m_bc (M 0)) = -1))) (val := M 0 (76 + 5 * cl (m_find (M 0) z1 z2 (m_bc (M 0))))) (N := us M 8 2 0) h hv ?_ (fun r w p => ?_) (fun w p => ?_) (fun w => ?_)
  · rcases h2 with d | ⟨d1, d2⟩ | ⟨d1, d2⟩
    · exact Or.inl d
    · exact Or.inr ⟨1, Or.inl ⟨rfl, d1⟩, d2⟩
    · exact Or.inr ⟨2, Or.inr ⟨rfl, d1⟩, d2⟩
  · obtain ⟨p1, p2, p3, p4⟩ := p
    rw [hX.place] at p3
    refine ⟨fun w9 e => ?_, ?_, us822 M 0, h.thr 0⟩
    · rcases e with ⟨-, e⟩ | ⟨-, -, e⟩
      · exact e p1
      · rw [p3] at e; exact nI_ne_m1 (by omega) e
    · rw [p4, p3, cl_n (by omega)]
      exact hX.1.b14 w p2
  · rw [hX.place] at p
    rcases p with ⟨rfl, p1⟩ | ⟨rfl, p1, p2⟩
    · refine ⟨fun q => p1 q.1, fun w9 e => ?_⟩
      rcases e with ⟨e, -⟩ | ⟨-, e, -⟩
      · rw [e]; decide +kernel
      · exact absurd e p1
    · refine ⟨fun q => ?_, fun w9 e => ?_⟩
      · obtain ⟨-, k, k1, k2⟩ := q
        rw [p2] at k2
        exact nI_ne_m1 (by omega) k2.symm
      · rcases e with ⟨-, e⟩ | ⟨e, -⟩
        · exact absurd p1 e
        · rw [e]; decide +kernel
  · show ¬ (if _ = _ then (1 : Int32) else 2) = 0
    split <;> decide
set_option maxHeartbeats 4000000 in
theorem eq_pageOf {c : Nat} {z : OS} {M : CT} (h : REL c z M) (hc : c ≤ 600) {f : Nat → Int64} (z1 z2 : Int32) {r : Int32} {v : (Int32 × Nat) ⊕ Nat} {r2 : Int32} {M2 : CT} (hv : wP (fun u => if ((fun u => if u = 0 then eIOOB else eNSE) u) = eIOOB then 1 else 2) (fun r (w : Nat) => (¬ z1 < 0 ∧ z1 < nI (vcO (zS z))) ∧ w < bcO (zS z) ∧ s_placeOf (zS z) z1 z2 (bcO (zS z)) = nI w ∧ r = nI w / 4) (fun (u : Nat) => (u = 0 ∧ ¬ (¬ z1 < 0 ∧ z1 < nI (vcO (zS z)))) ∨ (u = 1 ∧ (¬ z1 < 0 ∧ z1 < nI (vcO (zS z))) ∧ s_placeOf (zS z) z1 z2 (bcO (zS z)) = -1)) r v) (h2 : (fun r (u : CT) => ((inr z1 (m_vc (M 0)) ∧ ∃ k, k < (m_bc (M 0)) ∧ m_find (M 0) z1 z2 (m_bc (M 0)) = nI k) ∧ nI (cl (m_find (M 0) z1 z2 (m_bc (M 0))) / 4) = r ∧ (us M 8 2 0) = u) ∨ ((¬ inr z1 (m_vc (M 0))) ∧ 0 = r ∧ (us M 8 2 1) = u) ∨ ((inr z1 (m_vc (M 0)) ∧ m_find (M 0) z1 z2 (m_bc (M 0)) = -1) ∧ 0 = r ∧ (us M 8 2 2) = u)) r2 M2) : M2 8 2 = r ∧ (r = 0 → fW f v 0 = r2.toInt64) ∧ REL (c + 1) (zW (fun w => z) (fun _ => z) v) M2 := by
  have hV : vcO (zS z) = m_vc (M 0) := h.1.1.vc
  have hF : fcO (zS z) = m_fc (M 0) := h.1.1.fc
  have hB : bcO (zS z) = m_bc (M 0) := h.1.1.bc
  have hMc : mcO (zS z) = m_mc (M 0) := h.1.1.mc
  have bV := h.vc.2
  have bF := h.fc.2
  have bB := h.bc.2
  have bM := h.mc.2
  obtain ⟨hX, hY⟩ := h.1.xc
  have hD : dB c ≤ 1000000 := by unfold dB; omega
  try simp only [hV, hF, hB, hMc] at hv ⊢
  refine qN (C := (inr z1 (m_vc (M 0)) ∧ ∃ k, k < m_bc (M 0) ∧ m_find (M 0) z1 z2 (m_bc (M 0)) = nI k)) (E := (fun w => (w = 1 ∧ ¬ inr z1 (m_vc (M 0))) ∨ (w = 2 ∧ inr z1 (m_vc (M 0)) ∧ m_find (M 0) z1 z2 (m_bc (M 0)) = -1))) (val := nI (cl (m_find (M 0) z1 z2 (m_bc (M 0))) / 4)) (N := us M 8 2 0) h hv ?_ (fun r w p => ?_) (fun w p => ?_) (fun w => ?_)
  · rcases h2 with d | ⟨d1, d2⟩ | ⟨d1, d2⟩
    · exact Or.inl d
    · exact Or.inr ⟨1, Or.inl ⟨rfl, d1⟩, d2⟩
    · exact Or.inr ⟨2, Or.inr ⟨rfl, d1⟩, d2⟩
  · obtain ⟨p1, p2, p3, p4⟩ := p
    rw [hX.place] at p3
    refine ⟨fun w9 e => ?_, ?_, us822 M 0, h.thr 0⟩
    · rcases e with ⟨-, e⟩ | ⟨-, -, e⟩
      · exact e p1
      · rw [p3] at e; exact nI_ne_m1 (by omega) e
    · rw [p4, p3, cl_n (by omega)]
      exact pk_div (d := 4) (by omega) (by decide) (by decide)
  · rw [hX.place] at p
    rcases p with ⟨rfl, p1⟩ | ⟨rfl, p1, p2⟩
    · refine ⟨fun q => p1 q.1, fun w9 e => ?_⟩
      rcases e with ⟨e, -⟩ | ⟨-, e, -⟩
      · rw [e]; decide +kernel
      · exact absurd e p1
    · refine ⟨fun q => ?_, fun w9 e => ?_⟩
      · obtain ⟨-, k, k1, k2⟩ := q
        rw [p2] at k2
        exact nI_ne_m1 (by omega) k2.symm
      · rcases e with ⟨-, e⟩ | ⟨e, -⟩
        · exact absurd p1 e
        · rw [e]; decide +kernel
  · show ¬ (if _ = _ then (1 : Int32) else 2) = 0
    split <;> decide
set_option maxHeartbeats 4000000 in
theorem eq_forecastAt {c : Nat} {z : OS} {M : CT} (h : REL c z M) (hc : c ≤ 600) {f : Nat → Int64} (z1 : Int32) {r : Int32} {v : (Int32 × Nat) ⊕ Unit} {r2 : Int32} {M2 : CT} (hv : wP (fun _ => 1) (fun r (w : Nat) => w < bcO (zS z) ∧ z1 = nI w ∧ r = s_label ((zS z) 10 w) ((zS z) 11 w)) (fun (_ : Unit) => ¬ (¬ z1 < 0 ∧ ¬ (zS z) 16 12 - 1 < z1)) r v) (h2 : (fun r (u : CT) => ((inr z1 (m_bc (M 0))) ∧ 10 * M 0 (73 + 5 * cl z1) + M 0 (72 + 5 * cl z1) = r ∧ (us M 8 2 0) = u) ∨ ((¬ inr z1 (m_bc (M 0))) ∧ 0 = r ∧ (us M 8 2 1) = u)) r2 M2) : M2 8 2 = r ∧ (r = 0 → fW f v 0 = r2.toInt64) ∧ REL (c + 1) (zW (fun w => z) (fun _ => z) v) M2 := by
  have hV : vcO (zS z) = m_vc (M 0) := h.1.1.vc
  have hF : fcO (zS z) = m_fc (M 0) := h.1.1.fc
  have hB : bcO (zS z) = m_bc (M 0) := h.1.1.bc
  have hMc : mcO (zS z) = m_mc (M 0) := h.1.1.mc
  have bV := h.vc.2
  have bF := h.fc.2
  have bB := h.bc.2
  have bM := h.mc.2
  obtain ⟨hX, hY⟩ := h.1.xc
  have hD : dB c ≤ 1000000 := by unfold dB; omega
  try simp only [hV, hF, hB, hMc] at hv ⊢
  refine q2 (C := inr z1 (m_bc (M 0))) h hv h2 (fun r w p => ?_) (fun _ p q => p ?_)
  · obtain ⟨p1, rfl, p3⟩ := p
    refine ⟨inr_n (by omega) p1, ?_, us822 M 0, h.thr 0⟩
    rw [p3, cl_n (by omega), s_label, hX.1.b10 w p1, hX.1.b11 w p1]
  · rw [show zS z 16 12 = nI (m_bc (M 0)) from (hX.1.c16 12 (by decide)).trans h.bc.1]
    exact (in_m1 (by omega)).mpr q
set_option maxHeartbeats 4000000 in
theorem eq_pageCount {c : Nat} {z : OS} {M : CT} (h : REL c z M) (hc : c ≤ 600) {r r2 : Int32} (h1 : (fun r (_ : Unit) => r = nI ((bcO (zS z) + 4 - 1) / 4)) r ()) (h2 : (fun r (_ : Unit) => r = nI (((m_bc (M 0)) + 4 - 1) / 4)) r2 ()) : r = r2 := by
  have hV : vcO (zS z) = m_vc (M 0) := h.1.1.vc
  have hF : fcO (zS z) = m_fc (M 0) := h.1.1.fc
  have hB : bcO (zS z) = m_bc (M 0) := h.1.1.bc
  have hMc : mcO (zS z) = m_mc (M 0) := h.1.1.mc
  have bV := h.vc.2
  have bF := h.fc.2
  have bB := h.bc.2
  have bM := h.mc.2
  obtain ⟨hX, hY⟩ := h.1.xc
  have hD : dB c ≤ 1000000 := by unfold dB; omega
  have e1 : r = _ := h1
  have e2 : r2 = _ := h2
  rw [e1, e2, hB]
set_option maxHeartbeats 4000000 in
theorem eq_refundOf {c : Nat} {z : OS} {M : CT} (h : REL c z M) (hc : c ≤ 600) {f : Nat → Int64} (z1 : Int32) {r : Int32} {v : (Int32 × Nat) ⊕ Unit} {r2 : Int32} {M2 : CT} (hv : wP (fun _ => 1) (fun r (w : Nat) => 4 * w < bcO (zS z) ∧ z1 = nI w ∧ r = s_paidForPage (zS z) w (bcO (zS z))) (fun (_ : Unit) => ¬ (¬ z1 < 0 ∧ z1 < nI ((bcO (zS z) + 4 - 1) / 4))) r v) (h2 : (fun r (u : CT) => ((inr z1 (((m_bc (M 0)) + 4 - 1) / 4)) ∧ m_refund (M 0) (cl z1) (m_bc (M 0)) = r ∧ (us M 8 2 0) = u) ∨ ((¬ inr z1 (((m_bc (M 0)) + 4 - 1) / 4)) ∧ 0 = r ∧ (us M 8 2 1) = u)) r2 M2) : M2 8 2 = r ∧ (r = 0 → fW f v 0 = r2.toInt64) ∧ REL (c + 1) (zW (fun w => z) (fun _ => z) v) M2 := by
  have hV : vcO (zS z) = m_vc (M 0) := h.1.1.vc
  have hF : fcO (zS z) = m_fc (M 0) := h.1.1.fc
  have hB : bcO (zS z) = m_bc (M 0) := h.1.1.bc
  have hMc : mcO (zS z) = m_mc (M 0) := h.1.1.mc
  have bV := h.vc.2
  have bF := h.fc.2
  have bB := h.bc.2
  have bM := h.mc.2
  obtain ⟨hX, hY⟩ := h.1.xc
  have hD : dB c ≤ 1000000 := by unfold dB; omega
  try simp only [hV, hF, hB, hMc] at hv ⊢
  refine q2 (C := inr z1 ((m_bc (M 0) + 4 - 1) / 4)) h hv h2 (fun r w p => ?_) (fun _ p => p)
  obtain ⟨p1, rfl, p3⟩ := p
  refine ⟨inr_n (by omega) (by omega), ?_, us822 M 0, h.thr 0⟩
  rw [p3, cl_n (by omega), hX.refund]
set_option maxHeartbeats 4000000 in
theorem eq_canRetract {c : Nat} {z : OS} {M : CT} (h : REL c z M) (hc : c ≤ 600) {f : Nat → Int64} (z1 : Int32) {r : Int32} {v : (Int32 × Nat) ⊕ Unit} {r2 : Int32} {M2 : CT} (hv : wP (fun _ => 1) (fun r (w : Nat) => 4 * w < bcO (zS z) ∧ z1 = nI w ∧ ((r = 1 ∧ s_canPay (zS z) w (bcO (zS z))) ∨ (r = 0 ∧ ¬ s_canPay (zS z) w (bcO (zS z))))) (fun (_ : Unit) => ¬ (¬ z1 < 0 ∧ z1 < nI ((bcO (zS z) + 4 - 1) / 4))) r v) (h2 : (fun r (u : CT) => ((inr z1 (((m_bc (M 0)) + 4 - 1) / 4) ∧ ¬ M 0 4 < m_refund (M 0) (cl z1) (m_bc (M 0))) ∧ 1 = r ∧ (us M 8 2 0) = u) ∨ ((inr z1 (((m_bc (M 0)) + 4 - 1) / 4) ∧ M 0 4 < m_refund (M 0) (cl z1) (m_bc (M 0))) ∧ 0 = r ∧ (us M 8 2 0) = u) ∨ ((¬ inr z1 (((m_bc (M 0)) + 4 - 1) / 4)) ∧ 0 = r ∧ (us M 8 2 1) = u)) r2 M2) : M2 8 2 = r ∧ (r = 0 → fWb f v 0 = if r2 = 0 then 0 else 1) ∧ REL (c + 1) (zW (fun w => z) (fun _ => z) v) M2 := by
  have hV : vcO (zS z) = m_vc (M 0) := h.1.1.vc
  have hF : fcO (zS z) = m_fc (M 0) := h.1.1.fc
  have hB : bcO (zS z) = m_bc (M 0) := h.1.1.bc
  have hMc : mcO (zS z) = m_mc (M 0) := h.1.1.mc
  have bV := h.vc.2
  have bF := h.fc.2
  have bB := h.bc.2
  have bM := h.mc.2
  obtain ⟨hX, hY⟩ := h.1.xc
  have hD : dB c ≤ 1000000 := by unfold dB; omega
  try simp only [hV, hF, hB, hMc] at hv ⊢
  refine qB (C1 := inr z1 ((m_bc (M 0) + 4 - 1) / 4) ∧ ¬ M 0 4 < m_refund (M 0) (cl z1) (m_bc (M 0))) (C0 := inr z1 ((m_bc (M 0) + 4 - 1) / 4) ∧ M 0 4 < m_refund (M 0) (cl z1) (m_bc (M 0))) (C := ¬ inr z1 ((m_bc (M 0) + 4 - 1) / 4)) h hv h2 (fun r w p => ?_) (fun _ p => ⟨fun q => p q.1, fun q => p q.1⟩)
  obtain ⟨p1, rfl, p3⟩ := p
  refine ⟨fun q => q (inr_n (by omega) (by omega)), ?_⟩
  have h4 : zS z 16 1 = M 0 4 := hX.1.c16 1 (by decide)
  rw [s_canPay, hX.refund, h4] at p3
  rw [cl_n (by omega)]
  rcases p3 with ⟨e1, e2⟩ | ⟨e1, e2⟩
  · exact Or.inl ⟨e1, fun q => e2 q.2⟩
  · exact Or.inr ⟨e1, fun q => e2 q.2⟩
set_option maxHeartbeats 4000000 in
theorem eq_printRefusal {c : Nat} {z : OS} {M : CT} (h : REL c z M) (hc : c ≤ 600) {f : Nat → Int64} (z1 z2 : Int32) {r : Int32} {v : (Int32 × Unit) ⊕ Unit} {r2 : Int32} {M2 : CT} (hv : wP (fun _ => 1) (fun r (_ : Unit) => (¬ z1 < 0 ∧ z1 < nI (vcO (zS z))) ∧ r = s_refusal (zS z) z1 z2 (bcO (zS z))) (fun (_ : Unit) => ¬ (¬ z1 < 0 ∧ z1 < nI (vcO (zS z)))) r v) (h2 : (fun r (u : CT) => ((inr z1 (m_vc (M 0))) ∧ m_why (M 0) z1 z2 (m_bc (M 0)) = r ∧ (us M 8 2 0) = u) ∨ ((¬ inr z1 (m_vc (M 0))) ∧ 0 = r ∧ (us M 8 2 1) = u)) r2 M2) : M2 8 2 = r ∧ (r = 0 → fW f v 0 = r2.toInt64) ∧ REL (c + 1) (zW (fun w => z) (fun _ => z) v) M2 := by
  have hV : vcO (zS z) = m_vc (M 0) := h.1.1.vc
  have hF : fcO (zS z) = m_fc (M 0) := h.1.1.fc
  have hB : bcO (zS z) = m_bc (M 0) := h.1.1.bc
  have hMc : mcO (zS z) = m_mc (M 0) := h.1.1.mc
  have bV := h.vc.2
  have bF := h.fc.2
  have bB := h.bc.2
  have bM := h.mc.2
  obtain ⟨hX, hY⟩ := h.1.xc
  have hD : dB c ≤ 1000000 := by unfold dB; omega
  try simp only [hV, hF, hB, hMc] at hv ⊢
  refine q2 (C := inr z1 (m_vc (M 0))) h hv h2 (fun r w p => ⟨p.1, ?_, us822 M 0, h.thr 0⟩) (fun _ p => p)
  rw [p.2]
  exact hX.why hY hD z1 z2
set_option maxHeartbeats 4000000 in
theorem eq_likeliestWeather {c : Nat} {z : OS} {M : CT} (h : REL c z M) (hc : c ≤ 600) {r r2 : Int32} (h1 : (fun r (_ : Unit) => r = nI (s_fg ((zS z) 8))) r ()) (h2 : (fun r (_ : Unit) => r = nI (s_fg (fun i => M 0 (1 + i)))) r2 ()) : r = r2 := by
  have hV : vcO (zS z) = m_vc (M 0) := h.1.1.vc
  have hF : fcO (zS z) = m_fc (M 0) := h.1.1.fc
  have hB : bcO (zS z) = m_bc (M 0) := h.1.1.bc
  have hMc : mcO (zS z) = m_mc (M 0) := h.1.1.mc
  have bV := h.vc.2
  have bF := h.fc.2
  have bB := h.bc.2
  have bM := h.mc.2
  obtain ⟨hX, hY⟩ := h.1.xc
  have hD : dB c ≤ 1000000 := by unfold dB; omega
  have e1 : r = _ := h1
  have e2 : r2 = _ := h2
  rw [e1, e2, s_fg_congr (f' := fun i => M 0 (1 + i)) (fun i hi => hX.1.odds i hi)]
set_option maxHeartbeats 4000000 in
theorem eq_tomorrowIn {c : Nat} {z : OS} {M : CT} (h : REL c z M) (hc : c ≤ 600) {f : Nat → Int64} (z1 : Int32) {r : Int32} {v : (Int32 × Nat) ⊕ Unit} {r2 : Int32} {M2 : CT} (hv : wP (fun _ => 1) (fun r (w : Nat) => w < vcO (zS z) ∧ z1 = nI w ∧ r = nI (s_wf (zS z) (s_seeds (w + 1) ((zS z) 16 11)))) (fun (_ : Unit) => ¬ (¬ z1 < 0 ∧ z1 < nI (vcO (zS z)))) r v) (h2 : (fun r (u : CT) => ((inr z1 (m_vc (M 0))) ∧ nI (m_wb (M 0) (fo (fun _ s => s_seed s) 0 (cl z1 + 1) (M 0 0))) = r ∧ (us M 8 2 0) = u) ∨ ((¬ inr z1 (m_vc (M 0))) ∧ 0 = r ∧ (us M 8 2 1) = u)) r2 M2) : M2 8 2 = r ∧ (r = 0 → fW f v 0 = r2.toInt64) ∧ REL (c + 1) (zW (fun w => z) (fun _ => z) v) M2 := by
  have hV : vcO (zS z) = m_vc (M 0) := h.1.1.vc
  have hF : fcO (zS z) = m_fc (M 0) := h.1.1.fc
  have hB : bcO (zS z) = m_bc (M 0) := h.1.1.bc
  have hMc : mcO (zS z) = m_mc (M 0) := h.1.1.mc
  have bV := h.vc.2
  have bF := h.fc.2
  have bB := h.bc.2
  have bM := h.mc.2
  obtain ⟨hX, hY⟩ := h.1.xc
  have hD : dB c ≤ 1000000 := by unfold dB; omega
  try simp only [hV, hF, hB, hMc] at hv ⊢
  refine q2 (C := inr z1 (m_vc (M 0))) h hv h2 (fun r w p => ?_) (fun _ p => p)
  obtain ⟨p1, rfl, p3⟩ := p
  refine ⟨inr_n (by omega) p1, ?_, us822 M 0, h.thr 0⟩
  have h0 : zS z 16 11 = M 0 0 := hX.1.c16 11 (by decide)
  rw [p3, cl_n (by omega), hX.wf, h0]
  rfl
set_option maxHeartbeats 4000000 in
theorem eq_regretCount {c : Nat} {z : OS} {M : CT} (h : REL c z M) (hc : c ≤ 600) {r r2 : Int32} (h1 : (fun r (_ : Unit) => r = (zS z) 16 13) r ()) (h2 : (fun r (_ : Unit) => r = M 0 9) r2 ()) : r = r2 := by
  exact (show r = _ from h1).trans ((h.1.1.1 13 (by decide)).trans (show r2 = _ from h2).symm)
set_option maxHeartbeats 4000000 in
theorem eq_regretAt {c : Nat} {z : OS} {M : CT} (h : REL c z M) (hc : c ≤ 600) {f : Nat → Int64} (z1 : Int32) {r : Int32} {v : (Int32 × Nat) ⊕ Unit} {r2 : Int32} {M2 : CT} (hv : wP (fun _ => 1) (fun r (w : Nat) => w < mcO (zS z) ∧ z1 = nI w ∧ r = (zS z) 15 w) (fun (_ : Unit) => ¬ (¬ z1 < 0 ∧ ¬ (zS z) 16 13 - 1 < z1)) r v) (h2 : (fun r (u : CT) => ((inr z1 (m_mc (M 0))) ∧ 10 * M 0 (222 + 2 * cl z1) + M 0 (223 + 2 * cl z1) = r ∧ (us M 8 2 0) = u) ∨ ((¬ inr z1 (m_mc (M 0))) ∧ 0 = r ∧ (us M 8 2 1) = u)) r2 M2) : M2 8 2 = r ∧ (r = 0 → fW f v 0 = r2.toInt64) ∧ REL (c + 1) (zW (fun w => z) (fun _ => z) v) M2 := by
  have hV : vcO (zS z) = m_vc (M 0) := h.1.1.vc
  have hF : fcO (zS z) = m_fc (M 0) := h.1.1.fc
  have hB : bcO (zS z) = m_bc (M 0) := h.1.1.bc
  have hMc : mcO (zS z) = m_mc (M 0) := h.1.1.mc
  have bV := h.vc.2
  have bF := h.fc.2
  have bB := h.bc.2
  have bM := h.mc.2
  obtain ⟨hX, hY⟩ := h.1.xc
  have hD : dB c ≤ 1000000 := by unfold dB; omega
  try simp only [hV, hF, hB, hMc] at hv ⊢
  refine q2 (C := inr z1 (m_mc (M 0))) h hv h2 (fun r w p => ?_) (fun _ p q => p ?_)
  · obtain ⟨p1, rfl, p3⟩ := p
    refine ⟨inr_n (by omega) p1, ?_, us822 M 0, h.thr 0⟩
    rw [p3, cl_n (by omega)]
    exact hX.1.2.2.2 w p1
  · rw [show zS z 16 13 = nI (m_mc (M 0)) from (hX.1.c16 13 (by decide)).trans h.mc.1]
    exact (in_m1 (by omega)).mpr q
set_option maxHeartbeats 4000000 in
theorem eq_hits {c : Nat} {z : OS} {M : CT} (h : REL c z M) (hc : c ≤ 600) {r r2 : Int32} (h1 : (fun r (_ : Unit) => r = (zS z) 16 2) r ()) (h2 : (fun r (_ : Unit) => r = M 0 10) r2 ()) : r = r2 := by
  exact (show r = _ from h1).trans ((h.1.1.1 2 (by decide)).trans (show r2 = _ from h2).symm)
set_option maxHeartbeats 4000000 in
theorem eq_regrets {c : Nat} {z : OS} {M : CT} (h : REL c z M) (hc : c ≤ 600) {r r2 : Int32} (h1 : (fun r (_ : Unit) => r = (zS z) 16 3) r ()) (h2 : (fun r (_ : Unit) => r = M 0 11) r2 ()) : r = r2 := by
  exact (show r = _ from h1).trans ((h.1.1.1 3 (by decide)).trans (show r2 = _ from h2).symm)
set_option maxHeartbeats 4000000 in
theorem eq_retractions {c : Nat} {z : OS} {M : CT} (h : REL c z M) (hc : c ≤ 600) {r r2 : Int32} (h1 : (fun r (_ : Unit) => r = (zS z) 16 4) r ()) (h2 : (fun r (_ : Unit) => r = M 0 12) r2 ()) : r = r2 := by
  exact (show r = _ from h1).trans ((h.1.1.1 4 (by decide)).trans (show r2 = _ from h2).symm)
set_option maxHeartbeats 4000000 in
theorem eq_coinsAfter {c : Nat} {z : OS} {M : CT} (h : REL c z M) (hc : c ≤ 600) {f : Nat → Int64} (z1 : Int32) {r : Int32} {v : (Int32 × Nat) ⊕ Unit} {r2 : Int32} {M2 : CT} (hv : wP (fun _ => 1) (fun r (w : Nat) => w ≤ 200 ∧ z1 = nI w ∧ r = s_days w (zS z) 16 1) (fun (_ : Unit) => ¬ (¬ z1 < 0 ∧ ¬ nI 200 < z1)) r v) (h2 : (fun r (u : CT) => ((¬ z1 < 0 ∧ ¬ 200 < z1) ∧ m_days (cl z1) (M 0) 4 = r ∧ (ur (us M 8 2 0) 2 (m_days (cl z1) (M 0))) = u) ∨ ((¬ (¬ z1 < 0 ∧ ¬ 200 < z1)) ∧ 0 = r ∧ (us M 8 2 1) = u)) r2 M2) : M2 8 2 = r ∧ (r = 0 → fW f v 0 = r2.toInt64) ∧ REL (c + 1) (zW (fun w => zDs z (s_days w (zS z))) (fun _ => z) v) M2 := by
  have hV : vcO (zS z) = m_vc (M 0) := h.1.1.vc
  have hF : fcO (zS z) = m_fc (M 0) := h.1.1.fc
  have hB : bcO (zS z) = m_bc (M 0) := h.1.1.bc
  have hMc : mcO (zS z) = m_mc (M 0) := h.1.1.mc
  have bV := h.vc.2
  have bF := h.fc.2
  have bB := h.bc.2
  have bM := h.mc.2
  obtain ⟨hX, hY⟩ := h.1.xc
  have hD : dB c ≤ 1000000 := by unfold dB; omega
  try simp only [hV, hF, hB, hMc] at hv ⊢
  refine q2 (C := ¬ z1 < 0 ∧ ¬ 200 < z1) (N := ur (us M 8 2 0) 2 (m_days (cl z1) (M 0))) h hv h2 (fun r w p => ?_) (fun _ p => p)
  obtain ⟨p1, rfl, p3⟩ := p
  refine ⟨⟨nI_nneg (by omega), nI_nlt (a := 200) p1 (by decide)⟩, ?_, us822 M 0, (h.thr 0).next rfl rfl rfl rfl rfl rfl (fun _ _ => rfl) |> fun _ => ?_⟩
  · rw [p3, cl_n (by omega)]
    exact (h.1.days w).1.1 1 (by decide)
  · exact h.next rfl rfl rfl rfl rfl rfl (us82 M 0)
set_option maxHeartbeats 4000000 in
theorem eq_trustAfter {c : Nat} {z : OS} {M : CT} (h : REL c z M) (hc : c ≤ 600) {f : Nat → Int64} (z1 z2 : Int32) {r : Int32} {v : (Int32 × Nat × Nat) ⊕ Nat} {r2 : Int32} {M2 : CT} (hv : wP (fun u => if ((fun u => if u = 0 then eIOOB else eIAE) u) = eIOOB then 1 else 2) (fun r (u : Nat × Nat) => (u.1 < vcO (zS z) ∧ z1 = nI u.1) ∧ (u.2 ≤ 200 ∧ z2 = nI u.2) ∧ r = s_days u.2 (zS z) 2 u.1) (fun (u : Nat) => (u = 0 ∧ ¬ (¬ z1 < 0 ∧ z1 < nI (vcO (zS z)))) ∨ (u = 1 ∧ (¬ z1 < 0 ∧ z1 < nI (vcO (zS z))) ∧ ¬ (¬ z2 < 0 ∧ ¬ nI 200 < z2))) r v) (h2 : (fun r (u : CT) => ((inr z1 (m_vc (M 0)) ∧ (¬ z2 < 0 ∧ ¬ 200 < z2)) ∧ m_days (cl z2) (M 0) (26 + 3 * cl z1) = r ∧ (ur (us M 8 2 0) 2 (m_days (cl z2) (M 0))) = u) ∨ ((¬ inr z1 (m_vc (M 0))) ∧ 0 = r ∧ (us M 8 2 1) = u) ∨ ((inr z1 (m_vc (M 0)) ∧ ¬ (¬ z2 < 0 ∧ ¬ 200 < z2)) ∧ 0 = r ∧ (us M 8 2 2) = u)) r2 M2) : M2 8 2 = r ∧ (r = 0 → fW f v 0 = r2.toInt64) ∧ REL (c + 1) (zW (fun w => zDs z (s_days w.2 (zS z))) (fun _ => z) v) M2 := by
  have hV : vcO (zS z) = m_vc (M 0) := h.1.1.vc
  have hF : fcO (zS z) = m_fc (M 0) := h.1.1.fc
  have hB : bcO (zS z) = m_bc (M 0) := h.1.1.bc
  have hMc : mcO (zS z) = m_mc (M 0) := h.1.1.mc
  have bV := h.vc.2
  have bF := h.fc.2
  have bB := h.bc.2
  have bM := h.mc.2
  obtain ⟨hX, hY⟩ := h.1.xc
  have hD : dB c ≤ 1000000 := by unfold dB; omega
  try simp only [hV, hF, hB, hMc] at hv ⊢
  refine qN (C := inr z1 (m_vc (M 0)) ∧ (¬ z2 < 0 ∧ ¬ 200 < z2)) (E := fun w => (w = 1 ∧ ¬ inr z1 (m_vc (M 0))) ∨ (w = 2 ∧ inr z1 (m_vc (M 0)) ∧ ¬ (¬ z2 < 0 ∧ ¬ 200 < z2))) (val := m_days (cl z2) (M 0) (26 + 3 * cl z1)) (N := ur (us M 8 2 0) 2 (m_days (cl z2) (M 0))) (z1 := fun w : Nat × Nat => zDs z (s_days w.2 (zS z))) h hv ?_ (fun r w p => ?_) (fun w p => ?_) (fun w => ?_)
  · rcases h2 with d | ⟨d1, d2⟩ | ⟨d1, d2⟩
    · exact Or.inl d
    · exact Or.inr ⟨1, Or.inl ⟨rfl, d1⟩, d2⟩
    · exact Or.inr ⟨2, Or.inr ⟨rfl, d1⟩, d2⟩
  · obtain ⟨⟨p1, rfl⟩, ⟨p2, rfl⟩, p4⟩ := p
    refine ⟨fun w9 e => ?_, ?_, us822 M 0, h.next rfl rfl rfl rfl rfl rfl (us82 M 0)⟩
    · rcases e with ⟨-, e⟩ | ⟨-, -, e⟩
      · exact e (inr_n (by omega) p1)
      · exact e ⟨nI_nneg (by omega), nI_nlt (a := 200) p2 (by decide)⟩
    · rw [p4, cl_n (by omega), cl_n (by omega)]
      obtain ⟨b, m, x, -⟩ := hX.days hY w.2
      exact x.1.v2 w.1 p1
  · rcases p with ⟨rfl, p1⟩ | ⟨rfl, p1, p2⟩
    · refine ⟨fun q => p1 q.1, fun w9 e => ?_⟩
      rcases e with ⟨e, -⟩ | ⟨-, e, -⟩
      · rw [e]; decide +kernel
      · exact absurd e p1
    · refine ⟨fun q => p2 q.2, fun w9 e => ?_⟩
      rcases e with ⟨-, e⟩ | ⟨e, -⟩
      · exact absurd p1 e
      · rw [e]; decide +kernel
  · show ¬ (if _ = _ then (1 : Int32) else 2) = 0
    split <;> decide
set_option maxHeartbeats 4000000 in
theorem eq_daysUntilEmpty {c : Nat} {z : OS} {M : CT} (h : REL c z M) (hc : c ≤ 600) : ∃ N, N ≤ 1000 ∧ (∀ j, j < N → 0 < m_bc (m_days j (M 0))) ∧ m_bc (m_days N (M 0)) = 0 ∧ ∀ r, (fun r (_ : Unit) => r = if (zS z) 16 12 = 0 then 0 else s_latestDay (zS z) (bcO (zS z)) - (zS z) 16 0) r () → r = nI N := by
  obtain ⟨N, n1, n2, n3, n4⟩ := h.1.untilEmpty (show dB c ≤ 1000000 by unfold dB; omega)
  exact ⟨N, n1, n2, n3, fun r hr => (show r = _ from hr).trans n4⟩
set_option maxHeartbeats 4000000 in
theorem eq_bestSeller {c : Nat} {z : OS} {M : CT} (h : REL c z M) (hc : c ≤ 600) {r r2 : Int32} (h1 : (fun r (_ : Unit) => r = if s_best (zS z) (bcO (zS z)) = -1 then -1 else s_label ((zS z) 10 (s_bestAt (zS z) (bcO (zS z)))) ((zS z) 11 (s_bestAt (zS z) (bcO (zS z))))) r ()) (h2 : (fun r (_ : Unit) => r = if (m_bc (M 0)) = 0 then -1 else 10 * M 0 (73 + 5 * m_best (M 0) (m_bc (M 0))) + M 0 (72 + 5 * m_best (M 0) (m_bc (M 0)))) r2 ()) : r = r2 := by
  have hV : vcO (zS z) = m_vc (M 0) := h.1.1.vc
  have hF : fcO (zS z) = m_fc (M 0) := h.1.1.fc
  have hB : bcO (zS z) = m_bc (M 0) := h.1.1.bc
  have hMc : mcO (zS z) = m_mc (M 0) := h.1.1.mc
  have bV := h.vc.2
  have bF := h.fc.2
  have bB := h.bc.2
  have bM := h.mc.2
  obtain ⟨hX, hY⟩ := h.1.xc
  have hD : dB c ≤ 1000000 := by unfold dB; omega
  have e1 : r = _ := h1
  have e2 : r2 = _ := h2
  rw [e1, e2, hB, s_best]
  by_cases q : m_bc (M 0) = 0
  · rw [if_pos q, if_pos rfl, if_pos q]
  · obtain ⟨b1, b2⟩ := best_eq hX (m_bc (M 0) - 1) 1 0 (by omega) (by omega)
    have b3 : s_bestAt (zS z) (m_bc (M 0)) = m_best (M 0) (m_bc (M 0)) := b1
    have b4 : m_best (M 0) (m_bc (M 0)) < m_bc (M 0) := b2
    rw [if_neg q, if_neg (nI_ne_m1 (by rw [b3]; omega)), if_neg q, b3, s_label, hX.1.b10 _ b4, hX.1.b11 _ b4]
set_option maxHeartbeats 4000000 in
theorem eq_copyDifference {c : Nat} {z : OS} {M : CT} (h : REL c z M) (hc : c ≤ 600) {r r2 : Int32} (h1 : (fun r (_ : Unit) => r = (zS z) 16 5 - s_copies (zS z) (bcO (zS z)) - (zS z) 16 6) r ()) (h2 : (fun r (_ : Unit) => r = fo (fun k s => s - M 0 (75 + 5 * k)) 0 (m_bc (M 0)) (M 0 13 - M 0 14)) r2 ()) : r = r2 := by
  have hV : vcO (zS z) = m_vc (M 0) := h.1.1.vc
  have hF : fcO (zS z) = m_fc (M 0) := h.1.1.fc
  have hB : bcO (zS z) = m_bc (M 0) := h.1.1.bc
  have hMc : mcO (zS z) = m_mc (M 0) := h.1.1.mc
  have bV := h.vc.2
  have bF := h.fc.2
  have bB := h.bc.2
  have bM := h.mc.2
  obtain ⟨hX, hY⟩ := h.1.xc
  have hD : dB c ≤ 1000000 := by unfold dB; omega
  have e1 : r = _ := h1
  have e2 : r2 = _ := h2
  have h5 : zS z 16 5 = M 0 13 := hX.1.c16 5 (by decide)
  have h6 : zS z 16 6 = M 0 14 := hX.1.c16 6 (by decide)
  have h3 : s_copies (zS z) (m_bc (M 0)) = fo (fun k s => s + M 0 (75 + 5 * k)) 0 (m_bc (M 0)) 0 := fo_congr _ _ _ (fun j s _ hj => by rw [hX.1.b13 j (by omega)])
  have h4 := fo_sub (fun k => M 0 (75 + 5 * k)) (m_bc (M 0)) 0 (M 0 13 - M 0 14) 0
  rw [Int32.sub_zero] at h4
  rw [e1, e2, hB, h5, h6, h3, h4]
  simp only [Int32.sub_eq_add_neg]
  ac_rfl
set_option maxHeartbeats 4000000 in
theorem eq_coinDifference {c : Nat} {z : OS} {M : CT} (h : REL c z M) (hc : c ≤ 600) {r r2 : Int32} (h1 : (fun r (_ : Unit) => r = (zS z) 16 7 - (zS z) 16 8 - (zS z) 16 1) r ()) (h2 : (fun r (_ : Unit) => r = M 0 15 - M 0 16 - M 0 4) r2 ()) : r = r2 := by
  have hV : vcO (zS z) = m_vc (M 0) := h.1.1.vc
  have hF : fcO (zS z) = m_fc (M 0) := h.1.1.fc
  have hB : bcO (zS z) = m_bc (M 0) := h.1.1.bc
  have hMc : mcO (zS z) = m_mc (M 0) := h.1.1.mc
  have bV := h.vc.2
  have bF := h.fc.2
  have bB := h.bc.2
  have bM := h.mc.2
  obtain ⟨hX, hY⟩ := h.1.xc
  have hD : dB c ≤ 1000000 := by unfold dB; omega
  have e1 : r = _ := h1
  have e2 : r2 = _ := h2
  have h5 : zS z 16 7 = M 0 15 := hX.1.c16 7 (by decide)
  have h6 : zS z 16 8 = M 0 16 := hX.1.c16 8 (by decide)
  have h7 : zS z 16 1 = M 0 4 := hX.1.c16 1 (by decide)
  rw [e1, e2, h5, h6, h7]
set_option maxHeartbeats 4000000 in
theorem eq_bookErrors {c : Nat} {z : OS} {M : CT} (h : REL c z M) (hc : c ≤ 600) {r r2 : Int32} (h1 : (fun r (_ : Unit) => r = s_errors (zS z) (bcO (zS z))) r ()) (h2 : (fun r (_ : Unit) => r = m_errs (M 0) (m_bc (M 0))) r2 ()) : r = r2 := by
  have hV : vcO (zS z) = m_vc (M 0) := h.1.1.vc
  have hF : fcO (zS z) = m_fc (M 0) := h.1.1.fc
  have hB : bcO (zS z) = m_bc (M 0) := h.1.1.bc
  have hMc : mcO (zS z) = m_mc (M 0) := h.1.1.mc
  have bV := h.vc.2
  have bF := h.fc.2
  have bB := h.bc.2
  have bM := h.mc.2
  obtain ⟨hX, hY⟩ := h.1.xc
  have hD : dB c ≤ 1000000 := by unfold dB; omega
  have e1 : r = _ := h1
  have e2 : r2 = _ := h2
  rw [e1, e2, hB, s_errs0 hX, m_errs0 hX hY hD]
set_option maxHeartbeats 4000000 in
theorem eq_hitShare {c : Nat} {z : OS} {M : CT} (h : REL c z M) (hc : c ≤ 600) {r r2 : UInt32} (h1 : (fun r9 (_ : Unit) => r9 = ff_ratio ((zS z) 16 2) ((zS z) 16 2 + (zS z) 16 3)) r ()) (h2 : (fun r9 (_ : Unit) => r9 = ff_ratio (M 0 10) (M 0 10 + M 0 11)) r2 ()) : r = r2 := by
  have hV : vcO (zS z) = m_vc (M 0) := h.1.1.vc
  have hF : fcO (zS z) = m_fc (M 0) := h.1.1.fc
  have hB : bcO (zS z) = m_bc (M 0) := h.1.1.bc
  have hMc : mcO (zS z) = m_mc (M 0) := h.1.1.mc
  have bV := h.vc.2
  have bF := h.fc.2
  have bB := h.bc.2
  have bM := h.mc.2
  obtain ⟨hX, hY⟩ := h.1.xc
  have hD : dB c ≤ 1000000 := by unfold dB; omega
  have e1 : r = _ := h1
  have e2 : r2 = _ := h2
  have h5 : zS z 16 2 = M 0 10 := hX.1.c16 2 (by decide)
  have h6 : zS z 16 3 = M 0 11 := hX.1.c16 3 (by decide)
  rw [e1, e2, h5, h6]
set_option maxHeartbeats 4000000 in
theorem eq_averageTrust {c : Nat} {z : OS} {M : CT} (h : REL c z M) (hc : c ≤ 600) {r r2 : UInt64} (h1 : (fun r9 (_ : Unit) => r9 = fd_ratio (s_sumT (zS z) (vcO (zS z))) ((zS z) 16 9)) r ()) (h2 : (fun r9 (_ : Unit) => r9 = fd_ratio (m_sumT (M 0) (m_vc (M 0))) (M 0 6)) r2 ()) : r = r2 := by
  have hV : vcO (zS z) = m_vc (M 0) := h.1.1.vc
  have hF : fcO (zS z) = m_fc (M 0) := h.1.1.fc
  have hB : bcO (zS z) = m_bc (M 0) := h.1.1.bc
  have hMc : mcO (zS z) = m_mc (M 0) := h.1.1.mc
  have bV := h.vc.2
  have bF := h.fc.2
  have bB := h.bc.2
  have bM := h.mc.2
  obtain ⟨hX, hY⟩ := h.1.xc
  have hD : dB c ≤ 1000000 := by unfold dB; omega
  have e1 : r = _ := h1
  have e2 : r2 = _ := h2
  have h5 : zS z 16 9 = M 0 6 := hX.1.c16 9 (by decide)
  have h6 : s_sumT (zS z) (m_vc (M 0)) = m_sumT (M 0) (m_vc (M 0)) := fo_congr _ _ _ (fun j s _ hj => by rw [hX.1.v2 j (by omega)])
  rw [e1, e2, hV, h5, h6]
set_option maxHeartbeats 4000000 in
theorem eq_print {c : Nat} {z : OS} {M : CT} (h : REL c z M) (hc : c ≤ 600) {f : Nat → Int64} (z1 z2 z3 : Int32) {r : Int32} {v : (Int32 × Unit) ⊕ Nat} {r2 : Int32} {M2 : CT} (hv : wP (fun u => if ((fun u => if u = 0 then eIOOB else if u = 1 then eIAE else eISE) u) = eIOOB then 1 else if ((fun u => if u = 0 then eIOOB else if u = 1 then eIAE else eISE) u) = eIAE then 2 else 3) (fun r9 (_ : Unit) => (¬ z1 < 0 ∧ z1 < nI (vcO (zS z))) ∧ (¬ z3 < 0 ∧ ¬ 2 < z3) ∧ s_refusal (zS z) z1 z2 (bcO (zS z)) = 0 ∧ r9 = nI (bcO (zS z)) / 4) (fun (u : Nat) => (u = 0 ∧ ¬ (¬ z1 < 0 ∧ z1 < nI (vcO (zS z)))) ∨ (u = 1 ∧ (¬ z1 < 0 ∧ z1 < nI (vcO (zS z))) ∧ ¬ (¬ z3 < 0 ∧ ¬ 2 < z3)) ∨ (u = 2 ∧ (¬ z1 < 0 ∧ z1 < nI (vcO (zS z))) ∧ (¬ z3 < 0 ∧ ¬ 2 < z3) ∧ ¬ s_refusal (zS z) z1 z2 (bcO (zS z)) = 0)) r v) (h2 : (fun r (u : CT) => ((inr z1 (m_vc (M 0)) ∧ inr z3 3 ∧ m_why (M 0) z1 z2 (m_bc (M 0)) = 0) ∧ nI ((m_bc (M 0)) / 4) = r ∧ (ur (us (us (ur (us M 8 2 0) 3 (va_cpy (M 0) (M 3) 0 (242 * (((cl (M 8 1)) + (cl (M 8 0))) % 8)) 242)) 8 1 (nI (if (cl (M 8 0)) = 8 then ((cl (M 8 1)) + 1) % 8 else (cl (M 8 1))))) 8 0 (nI (min ((cl (M 8 0)) + 1) 8))) 0 (m_prints (M 0) z1 z2 z3 (m_bc (M 0)))) = u) ∨ ((¬ inr z1 (m_vc (M 0))) ∧ 0 = r ∧ (us M 8 2 1) = u) ∨ ((inr z1 (m_vc (M 0)) ∧ ¬ inr z3 3) ∧ 0 = r ∧ (us M 8 2 2) = u) ∨ ((inr z1 (m_vc (M 0)) ∧ inr z3 3 ∧ ¬ m_why (M 0) z1 z2 (m_bc (M 0)) = 0) ∧ 0 = r ∧ (us M 8 2 3) = u)) r2 M2) : M2 8 2 = r ∧ (r = 0 → fW f v 0 = r2.toInt64) ∧ REL (c + 1) (zW (fun w => zR z (s_bookAdd (zS z) z1 z2 z3 (bcO (zS z)))) (fun _ => z) v) M2 := by
  have hV : vcO (zS z) = m_vc (M 0) := h.1.1.vc
  have hF : fcO (zS z) = m_fc (M 0) := h.1.1.fc
  have hB : bcO (zS z) = m_bc (M 0) := h.1.1.bc
  have hMc : mcO (zS z) = m_mc (M 0) := h.1.1.mc
  have bV := h.vc.2
  have bF := h.fc.2
  have bB := h.bc.2
  have bM := h.mc.2
  obtain ⟨hX, hY⟩ := h.1.xc
  have hD : dB c ≤ 1000000 := by unfold dB; omega
  try simp only [hV, hF, hB, hMc] at hv ⊢
  refine qN (C := inr z1 (m_vc (M 0)) ∧ inr z3 3 ∧ m_why (M 0) z1 z2 (m_bc (M 0)) = 0) (E := fun w => (w = 1 ∧ ¬ inr z1 (m_vc (M 0))) ∨ (w = 2 ∧ inr z1 (m_vc (M 0)) ∧ ¬ inr z3 3) ∨ (w = 3 ∧ inr z1 (m_vc (M 0)) ∧ inr z3 3 ∧ ¬ m_why (M 0) z1 z2 (m_bc (M 0)) = 0)) (val := nI (m_bc (M 0) / 4)) (N := hM M (cl (M 8 0)) (cl (M 8 1)) (m_prints (M 0) z1 z2 z3 (m_bc (M 0)))) (z1 := fun _ : Unit => zR z (s_bookAdd (zS z) z1 z2 z3 (m_bc (M 0)))) h hv ?_ (fun r w p => ?_) (fun w p => ?_) (fun w => ?_)
  · rcases h2 with d | ⟨d1, d2⟩ | ⟨d1, d2⟩ | ⟨d1, d2⟩
    · exact Or.inl d
    · exact Or.inr ⟨1, Or.inl ⟨rfl, d1⟩, d2⟩
    · exact Or.inr ⟨2, Or.inr (Or.inl ⟨rfl, d1⟩), d2⟩
    · exact Or.inr ⟨3, Or.inr (Or.inr ⟨rfl, d1⟩), d2⟩
  · obtain ⟨p1, p2, p3, p4⟩ := p
    rw [hX.why hY hD] at p3
    refine ⟨fun w9 e => ?_, ?_, rfl, ?_⟩
    · rcases e with ⟨-, e⟩ | ⟨-, -, e⟩ | ⟨-, -, -, e⟩
      · exact e p1
      · exact e ((in3 z3).mp p2)
      · exact e p3
    · rw [p4]; exact pk_div (d := 4) (by omega) (by decide) (by decide)
    · obtain ⟨w, hw, rfl⟩ := has_nat p1 (by omega)
      obtain ⟨x1, x2⟩ := hX.prints z3 hw p3 hY hD
      exact h.push ((x1.sr x2).mono (dB_succ c))
  · rw [hX.why hY hD] at p
    rcases p with ⟨rfl, p1⟩ | ⟨rfl, p1, p2⟩ | ⟨rfl, p1, p2, p3⟩
    · refine ⟨fun q => p1 q.1, fun w9 e => ?_⟩
      rcases e with ⟨e, -⟩ | ⟨-, e, -⟩ | ⟨-, e, -⟩
      · rw [e]; decide +kernel
      · exact absurd e p1
      · exact absurd e p1
    · refine ⟨fun q => p2 ((in3 z3).mpr q.2.1), fun w9 e => ?_⟩
      rcases e with ⟨-, e⟩ | ⟨e, -⟩ | ⟨-, -, e, -⟩
      · exact absurd p1 e
      · rw [e]; decide +kernel
      · exact absurd ((in3 z3).mpr e) p2
    · refine ⟨fun q => p3 q.2.2, fun w9 e => ?_⟩
      rcases e with ⟨-, e⟩ | ⟨-, -, e⟩ | ⟨e, -⟩
      · exact absurd p1 e
      · exact absurd ((in3 z3).mp p2) e
      · rw [e]; decide +kernel
  · show ¬ (if _ = _ then (1 : Int32) else if _ = _ then 2 else 3) = 0
    split
    · decide
    · split <;> decide
set_option maxHeartbeats 4000000 in
theorem eq_retract {c : Nat} {z : OS} {M : CT} (h : REL c z M) (hc : c ≤ 600) {f : Nat → Int64} (z1 : Int32) {r : Int32} {v : (Int32 × Nat) ⊕ Nat × Nat} {r2 : Int32} {M2 : CT} (hv : wP (fun u => if ((fun u => if u.1 = 0 then eNSE else eISE) u) = eNSE then 1 else 2) (fun r9 (w : Nat) => (4 * w < bcO (zS z) ∧ z1 = nI w) ∧ s_canPay (zS z) w (bcO (zS z)) ∧ r9 = s_paidForPage (zS z) w (bcO (zS z))) (fun (u : Nat × Nat) => (u.1 = 0 ∧ ¬ (¬ z1 < 0 ∧ z1 < nI ((bcO (zS z) + 4 - 1) / 4))) ∨ (u.1 = 1 ∧ (4 * u.2 < bcO (zS z) ∧ z1 = nI u.2) ∧ ¬ s_canPay (zS z) u.2 (bcO (zS z)))) r v) (h2 : (fun r (u : CT) => ((inr z1 (((m_bc (M 0)) + 4 - 1) / 4) ∧ m_refund (M 0) (cl z1) (m_bc (M 0)) ≤ M 0 4) ∧ m_refund (M 0) (cl z1) (m_bc (M 0)) = r ∧ (ur (us (us (ur (us M 8 2 0) 3 (va_cpy (M 0) (M 3) 0 (242 * (((cl (M 8 1)) + (cl (M 8 0))) % 8)) 242)) 8 1 (nI (if (cl (M 8 0)) = 8 then ((cl (M 8 1)) + 1) % 8 else (cl (M 8 1))))) 8 0 (nI (min ((cl (M 8 0)) + 1) 8))) 0 (m_retracts (M 0) (cl z1) (m_bc (M 0)))) = u) ∨ ((¬ inr z1 (((m_bc (M 0)) + 4 - 1) / 4)) ∧ 0 = r ∧ (us M 8 2 1) = u) ∨ ((inr z1 (((m_bc (M 0)) + 4 - 1) / 4) ∧ ¬ m_refund (M 0) (cl z1) (m_bc (M 0)) ≤ M 0 4) ∧ 0 = r ∧ (us M 8 2 2) = u)) r2 M2) : M2 8 2 = r ∧ (r = 0 → fW f v 0 = r2.toInt64) ∧ REL (c + 1) (zW (fun w => zR z (s_takeBack (zS z) w (bcO (zS z)) (vcO (zS z)))) (fun _ => z) v) M2 := by
  have hV : vcO (zS z) = m_vc (M 0) := h.1.1.vc
  have hF : fcO (zS z) = m_fc (M 0) := h.1.1.fc
  have hB : bcO (zS z) = m_bc (M 0) := h.1.1.bc
  have hMc : mcO (zS z) = m_mc (M 0) := h.1.1.mc
  have bV := h.vc.2
  have bF := h.fc.2
  have bB := h.bc.2
  have bM := h.mc.2
  obtain ⟨hX, hY⟩ := h.1.xc
  have hD : dB c ≤ 1000000 := by unfold dB; omega
  try simp only [hV, hF, hB, hMc] at hv ⊢
  have h4 : zS z 16 1 = M 0 4 := hX.1.c16 1 (by decide)
  refine qN (C := inr z1 ((m_bc (M 0) + 4 - 1) / 4) ∧ m_refund (M 0) (cl z1) (m_bc (M 0)) ≤ M 0 4) (E := fun w => (w = 1 ∧ ¬ inr z1 ((m_bc (M 0) + 4 - 1) / 4)) ∨ (w = 2 ∧ inr z1 ((m_bc (M 0) + 4 - 1) / 4) ∧ ¬ m_refund (M 0) (cl z1) (m_bc (M 0)) ≤ M 0 4)) (val := m_refund (M 0) (cl z1) (m_bc (M 0))) (N := hM M (cl (M 8 0)) (cl (M 8 1)) (m_retracts (M 0) (cl z1) (m_bc (M 0)))) (z1 := fun w : Nat => zR z (s_takeBack (zS z) w (m_bc (M 0)) (m_vc (M 0)))) h hv ?_ (fun r w p => ?_) (fun w p => ?_) (fun w => ?_)
  · rcases h2 with d | ⟨d1, d2⟩ | ⟨d1, d2⟩
    · exact Or.inl d
    · exact Or.inr ⟨1, Or.inl ⟨rfl, d1⟩, d2⟩
    · exact Or.inr ⟨2, Or.inr ⟨rfl, d1⟩, d2⟩
  · obtain ⟨⟨p1, rfl⟩, p2, p3⟩ := p
    rw [s_canPay, hX.refund, h4] at p2
    rw [hX.refund] at p3
    rw [cl_n (by omega)]
    refine ⟨fun w9 e => ?_, p3, rfl, ?_⟩
    · rcases e with ⟨-, e⟩ | ⟨-, -, e⟩
      · exact e (inr_n (by omega) (by omega))
      · exact e (Int32.not_lt.mp p2)
    · obtain ⟨b, x1, x2⟩ := hX.retracts p1 hY
      exact h.push ((x1.sr x2).mono (dB_succ c))
  · rcases p with ⟨e0, p1⟩ | ⟨e0, ⟨p1, p2⟩, p3⟩
    · refine ⟨fun q => p1 q.1, fun w9 e => ?_⟩
      rcases e with ⟨e, -⟩ | ⟨-, e, -⟩
      · rw [e]; exact ((kd2 (by decide) w.1).trans (if_pos e0)).symm
      · exact absurd e p1
    · rw [s_canPay, hX.refund, h4] at p3
      rw [p2, cl_n (by omega)]
      refine ⟨fun q => p3 (Int32.not_lt.mpr q.2), fun w9 e => ?_⟩
      rcases e with ⟨-, e⟩ | ⟨e, -⟩
      · exact absurd (inr_n (by omega) (by omega)) e
      · rw [e]; exact ((kd2 (by decide) w.1).trans (if_neg (by omega))).symm
  · show ¬ (if _ = _ then (1 : Int32) else 2) = 0
    split <;> decide
set_option maxHeartbeats 4000000 in
theorem eq_setTrust {c : Nat} {z : OS} {M : CT} (h : REL c z M) (hc : c ≤ 600) {f : Nat → Int64} (z1 z2 : Int32) {r : Int32} {v : (Int32 × Nat) ⊕ Nat} {r2 : Int32} {M2 : CT} (hv : wP (fun u => if ((fun u => if u = 0 then eIOOB else eIAE) u) = eIOOB then 1 else 2) (fun r9 (w : Nat) => (w < vcO (zS z) ∧ z1 = nI w) ∧ (¬ z2 < 0 ∧ ¬ 100 < z2) ∧ r9 = (zS z) 2 w) (fun (u : Nat) => (u = 0 ∧ ¬ (¬ z1 < 0 ∧ z1 < nI (vcO (zS z)))) ∨ (u = 1 ∧ (¬ z1 < 0 ∧ z1 < nI (vcO (zS z))) ∧ ¬ (¬ z2 < 0 ∧ ¬ 100 < z2))) r v) (h2 : (fun r (u : CT) => ((inr z1 (m_vc (M 0)) ∧ (¬ z2 < 0 ∧ ¬ 100 < z2)) ∧ M 0 (26 + 3 * cl z1) = r ∧ (us (us (us (ur (us M 8 2 0) 3 (va_cpy (M 0) (M 3) 0 (242 * (((cl (M 8 1)) + (cl (M 8 0))) % 8)) 242)) 8 1 (nI (if (cl (M 8 0)) = 8 then ((cl (M 8 1)) + 1) % 8 else (cl (M 8 1))))) 8 0 (nI (min ((cl (M 8 0)) + 1) 8))) 0 (26 + 3 * cl z1) z2) = u) ∨ ((¬ inr z1 (m_vc (M 0))) ∧ 0 = r ∧ (us M 8 2 1) = u) ∨ ((inr z1 (m_vc (M 0)) ∧ ¬ (¬ z2 < 0 ∧ ¬ 100 < z2)) ∧ 0 = r ∧ (us M 8 2 2) = u)) r2 M2) : M2 8 2 = r ∧ (r = 0 → fW f v 0 = r2.toInt64) ∧ REL (c + 1) (zW (fun w => zR z (us (zS z) 2 w z2)) (fun _ => z) v) M2 := by
  have hV : vcO (zS z) = m_vc (M 0) := h.1.1.vc
  have hF : fcO (zS z) = m_fc (M 0) := h.1.1.fc
  have hB : bcO (zS z) = m_bc (M 0) := h.1.1.bc
  have hMc : mcO (zS z) = m_mc (M 0) := h.1.1.mc
  have bV := h.vc.2
  have bF := h.fc.2
  have bB := h.bc.2
  have bM := h.mc.2
  obtain ⟨hX, hY⟩ := h.1.xc
  have hD : dB c ≤ 1000000 := by unfold dB; omega
  try simp only [hV, hF, hB, hMc] at hv ⊢
  refine qN (C := inr z1 (m_vc (M 0)) ∧ (¬ z2 < 0 ∧ ¬ 100 < z2)) (E := fun w => (w = 1 ∧ ¬ inr z1 (m_vc (M 0))) ∨ (w = 2 ∧ inr z1 (m_vc (M 0)) ∧ ¬ (¬ z2 < 0 ∧ ¬ 100 < z2))) (val := M 0 (26 + 3 * cl z1)) (N := hM M (cl (M 8 0)) (cl (M 8 1)) (upd (M 0) (26 + 3 * cl z1) z2)) (z1 := fun w : Nat => zR z (us (zS z) 2 w z2)) h hv ?_ (fun r w p => ?_) (fun w p => ?_) (fun w => ?_)
  · rcases h2 with d | ⟨d1, d2⟩ | ⟨d1, d2⟩
    · exact Or.inl d
    · exact Or.inr ⟨1, Or.inl ⟨rfl, d1⟩, d2⟩
    · exact Or.inr ⟨2, Or.inr ⟨rfl, d1⟩, d2⟩
  · obtain ⟨⟨p1, rfl⟩, p2, p3⟩ := p
    refine ⟨fun w9 e => ?_, ?_, rfl, ?_⟩
    · rcases e with ⟨-, e⟩ | ⟨-, -, e⟩
      · exact e (inr_n (by omega) p1)
      · exact e p2
    · rw [p3, cl_n (by omega)]; exact hX.1.v2 w p1
    · have q0 : ¬ z2 < 0 := nlt_of p2.1 (by decide)
      obtain ⟨t, t1, rfl⟩ := nI_of2 (M := 100) (n := 100) rfl q0 (Int32.not_lt.mp p2.2)
      rw [cl_n (by omega)]
      exact h.push ((hX.trustS p1 t1).sr (hY.lo (by omega) (by omega) bB _) |>.mono (dB_succ c))
  · rcases p with ⟨rfl, p1⟩ | ⟨rfl, p1, p2⟩
    · refine ⟨fun q => p1 q.1, fun w9 e => ?_⟩
      rcases e with ⟨e, -⟩ | ⟨-, e, -⟩
      · rw [e]; decide +kernel
      · exact absurd e p1
    · refine ⟨fun q => p2 q.2, fun w9 e => ?_⟩
      rcases e with ⟨-, e⟩ | ⟨e, -⟩
      · exact absurd p1 e
      · rw [e]; decide +kernel
  · show ¬ (if _ = _ then (1 : Int32) else 2) = 0
    split <;> decide
set_option maxHeartbeats 4000000 in
theorem eq_setPeople {c : Nat} {z : OS} {M : CT} (h : REL c z M) (hc : c ≤ 600) {f : Nat → Int64} (z1 z2 : Int32) {r : Int32} {v : (Int32 × Nat) ⊕ Nat} {r2 : Int32} {M2 : CT} (hv : wP (fun u => if ((fun u => if u = 0 then eIOOB else eIAE) u) = eIOOB then 1 else 2) (fun r9 (w : Nat) => (w < vcO (zS z) ∧ z1 = nI w) ∧ (¬ z2 < 1 ∧ ¬ 99 < z2) ∧ r9 = (zS z) 1 w) (fun (u : Nat) => (u = 0 ∧ ¬ (¬ z1 < 0 ∧ z1 < nI (vcO (zS z)))) ∨ (u = 1 ∧ (¬ z1 < 0 ∧ z1 < nI (vcO (zS z))) ∧ ¬ (¬ z2 < 1 ∧ ¬ 99 < z2))) r v) (h2 : (fun r (u : CT) => ((inr z1 (m_vc (M 0)) ∧ (¬ z2 < 1 ∧ ¬ 99 < z2)) ∧ M 0 (25 + 3 * cl z1) = r ∧ (us (us (us (ur (us M 8 2 0) 3 (va_cpy (M 0) (M 3) 0 (242 * (((cl (M 8 1)) + (cl (M 8 0))) % 8)) 242)) 8 1 (nI (if (cl (M 8 0)) = 8 then ((cl (M 8 1)) + 1) % 8 else (cl (M 8 1))))) 8 0 (nI (min ((cl (M 8 0)) + 1) 8))) 0 (25 + 3 * cl z1) z2) = u) ∨ ((¬ inr z1 (m_vc (M 0))) ∧ 0 = r ∧ (us M 8 2 1) = u) ∨ ((inr z1 (m_vc (M 0)) ∧ ¬ (¬ z2 < 1 ∧ ¬ 99 < z2)) ∧ 0 = r ∧ (us M 8 2 2) = u)) r2 M2) : M2 8 2 = r ∧ (r = 0 → fW f v 0 = r2.toInt64) ∧ REL (c + 1) (zW (fun w => zR z (us (zS z) 1 w z2)) (fun _ => z) v) M2 := by
  have hV : vcO (zS z) = m_vc (M 0) := h.1.1.vc
  have hF : fcO (zS z) = m_fc (M 0) := h.1.1.fc
  have hB : bcO (zS z) = m_bc (M 0) := h.1.1.bc
  have hMc : mcO (zS z) = m_mc (M 0) := h.1.1.mc
  have bV := h.vc.2
  have bF := h.fc.2
  have bB := h.bc.2
  have bM := h.mc.2
  obtain ⟨hX, hY⟩ := h.1.xc
  have hD : dB c ≤ 1000000 := by unfold dB; omega
  try simp only [hV, hF, hB, hMc] at hv ⊢
  refine qN (C := inr z1 (m_vc (M 0)) ∧ (¬ z2 < 1 ∧ ¬ 99 < z2)) (E := fun w => (w = 1 ∧ ¬ inr z1 (m_vc (M 0))) ∨ (w = 2 ∧ inr z1 (m_vc (M 0)) ∧ ¬ (¬ z2 < 1 ∧ ¬ 99 < z2))) (val := M 0 (25 + 3 * cl z1)) (N := hM M (cl (M 8 0)) (cl (M 8 1)) (upd (M 0) (25 + 3 * cl z1) z2)) (z1 := fun w : Nat => zR z (us (zS z) 1 w z2)) h hv ?_ (fun r w p => ?_) (fun w p => ?_) (fun w => ?_)
  · rcases h2 with d | ⟨d1, d2⟩ | ⟨d1, d2⟩
    · exact Or.inl d
    · exact Or.inr ⟨1, Or.inl ⟨rfl, d1⟩, d2⟩
    · exact Or.inr ⟨2, Or.inr ⟨rfl, d1⟩, d2⟩
  · obtain ⟨⟨p1, rfl⟩, p2, p3⟩ := p
    refine ⟨fun w9 e => ?_, ?_, rfl, ?_⟩
    · rcases e with ⟨-, e⟩ | ⟨-, -, e⟩
      · exact e (inr_n (by omega) p1)
      · exact e p2
    · rw [p3, cl_n (by omega)]; exact hX.1.v1 w p1
    · have q0 : ¬ z2 < 0 := nlt_of p2.1 (by decide)
      obtain ⟨t, t1, rfl⟩ := nI_of2 (M := 99) (n := 99) rfl q0 (Int32.not_lt.mp p2.2)
      rw [cl_n (by omega)]
      exact h.push ((hX.people p1 t1).sr (hY.lo (by omega) (by omega) bB _) |>.mono (dB_succ c))
  · rcases p with ⟨rfl, p1⟩ | ⟨rfl, p1, p2⟩
    · refine ⟨fun q => p1 q.1, fun w9 e => ?_⟩
      rcases e with ⟨e, -⟩ | ⟨-, e, -⟩
      · rw [e]; decide +kernel
      · exact absurd e p1
    · refine ⟨fun q => p2 q.2, fun w9 e => ?_⟩
      rcases e with ⟨-, e⟩ | ⟨e, -⟩
      · exact absurd p1 e
      · rw [e]; decide +kernel
  · show ¬ (if _ = _ then (1 : Int32) else 2) = 0
    split <;> decide
set_option maxHeartbeats 4000000 in
theorem eq_setOdds {c : Nat} {z : OS} {M : CT} (h : REL c z M) (hc : c ≤ 600) {f : Nat → Int64} (z1 z2 : Int32) {r : Int32} {v : (Int32 × Nat) ⊕ Nat × Nat} {r2 : Int32} {M2 : CT} (hv : wP (fun u => if ((fun u => if u.1 = 0 then eIAE else eISE) u) = eIAE then 1 else 2) (fun r9 (w : Nat) => (w < 3 ∧ z1 = nI w) ∧ (¬ z2 < 0 ∧ ¬ 20 < z2) ∧ ¬ s_sumO (zS z) - (zS z) 8 w + z2 = 0 ∧ r9 = (zS z) 8 w) (fun (u : Nat × Nat) => (u.1 = 0 ∧ ¬ (¬ z1 < 0 ∧ ¬ 2 < z1)) ∨ (u.1 = 0 ∧ (¬ z1 < 0 ∧ ¬ 2 < z1) ∧ ¬ (¬ z2 < 0 ∧ ¬ 20 < z2)) ∨ (u.1 = 1 ∧ (u.2 < 3 ∧ z1 = nI u.2) ∧ (¬ z2 < 0 ∧ ¬ 20 < z2) ∧ s_sumO (zS z) - (zS z) 8 u.2 + z2 = 0)) r v) (h2 : (fun r (u : CT) => ((inr z1 3 ∧ (¬ z2 < 0 ∧ ¬ 20 < z2) ∧ ¬ m_allOdds (M 0) - M 0 (1 + cl z1) + z2 = 0) ∧ M 0 (1 + cl z1) = r ∧ (us (us (us (ur (us M 8 2 0) 3 (va_cpy (M 0) (M 3) 0 (242 * (((cl (M 8 1)) + (cl (M 8 0))) % 8)) 242)) 8 1 (nI (if (cl (M 8 0)) = 8 then ((cl (M 8 1)) + 1) % 8 else (cl (M 8 1))))) 8 0 (nI (min ((cl (M 8 0)) + 1) 8))) 0 (1 + cl z1) z2) = u) ∨ ((¬ inr z1 3) ∧ 0 = r ∧ (us M 8 2 1) = u) ∨ ((inr z1 3 ∧ ¬ (¬ z2 < 0 ∧ ¬ 20 < z2)) ∧ 0 = r ∧ (us M 8 2 1) = u) ∨ ((inr z1 3 ∧ (¬ z2 < 0 ∧ ¬ 20 < z2) ∧ m_allOdds (M 0) - M 0 (1 + cl z1) + z2 = 0) ∧ 0 = r ∧ (us M 8 2 2) = u)) r2 M2) : M2 8 2 = r ∧ (r = 0 → fW f v 0 = r2.toInt64) ∧ REL (c + 1) (zW (fun w => zR z (us (zS z) 8 w z2)) (fun _ => z) v) M2 := by
  have hV : vcO (zS z) = m_vc (M 0) := h.1.1.vc
  have hF : fcO (zS z) = m_fc (M 0) := h.1.1.fc
  have hB : bcO (zS z) = m_bc (M 0) := h.1.1.bc
  have hMc : mcO (zS z) = m_mc (M 0) := h.1.1.mc
  have bV := h.vc.2
  have bF := h.fc.2
  have bB := h.bc.2
  have bM := h.mc.2
  obtain ⟨hX, hY⟩ := h.1.xc
  have hD : dB c ≤ 1000000 := by unfold dB; omega
  try simp only [hV, hF, hB, hMc] at hv ⊢
  refine qN (C := inr z1 3 ∧ (¬ z2 < 0 ∧ ¬ 20 < z2) ∧ ¬ m_allOdds (M 0) - M 0 (1 + cl z1) + z2 = 0) (E := fun w => (w = 1 ∧ ¬ inr z1 3) ∨ (w = 1 ∧ inr z1 3 ∧ ¬ (¬ z2 < 0 ∧ ¬ 20 < z2)) ∨ (w = 2 ∧ inr z1 3 ∧ (¬ z2 < 0 ∧ ¬ 20 < z2) ∧ m_allOdds (M 0) - M 0 (1 + cl z1) + z2 = 0)) (val := M 0 (1 + cl z1)) (N := hM M (cl (M 8 0)) (cl (M 8 1)) (upd (M 0) (1 + cl z1) z2)) (z1 := fun w : Nat => zR z (us (zS z) 8 w z2)) h hv ?_ (fun r w p => ?_) (fun w p => ?_) (fun w => ?_)
  · rcases h2 with d | ⟨d1, d2⟩ | ⟨d1, d2⟩ | ⟨d1, d2⟩
    · exact Or.inl d
    · exact Or.inr ⟨1, Or.inl ⟨rfl, d1⟩, d2⟩
    · exact Or.inr ⟨1, Or.inr (Or.inl ⟨rfl, d1⟩), d2⟩
    · exact Or.inr ⟨2, Or.inr (Or.inr ⟨rfl, d1⟩), d2⟩
  · obtain ⟨⟨p1, rfl⟩, p2, p3, p4⟩ := p
    rw [hX.sum, hX.1.odds w p1] at p3
    rw [cl_n (by omega)]
    refine ⟨fun w9 e => ?_, ?_, rfl, ?_⟩
    · rcases e with ⟨-, e⟩ | ⟨-, -, e⟩ | ⟨-, -, -, e⟩
      · exact e (inr_n (by omega) p1)
      · exact e p2
      · exact p3 e
    · rw [p4]; exact hX.1.odds w p1
    · obtain ⟨t, t1, rfl⟩ := nI_of2 (M := 20) (n := 20) rfl p2.1 (Int32.not_lt.mp p2.2)
      exact h.push ((hX.odds1 p1 t1 p3).sr (hY.lo (by omega) (by omega) bB _) |>.mono (dB_succ c))
  · rcases p with ⟨e0, p1⟩ | ⟨e0, p1, p2⟩ | ⟨e0, ⟨p1, p2⟩, p3, p4⟩
    · refine ⟨fun q => p1 ((in3 z1).mpr q.1), fun w9 e => ?_⟩
      rcases e with ⟨e, -⟩ | ⟨e, -⟩ | ⟨-, e, -⟩
      · rw [e]; exact ((kd2 (by decide) w.1).trans (if_pos e0)).symm
      · rw [e]; exact ((kd2 (by decide) w.1).trans (if_pos e0)).symm
      · exact absurd ((in3 z1).mpr e) p1
    · refine ⟨fun q => p2 q.2.1, fun w9 e => ?_⟩
      rcases e with ⟨e, -⟩ | ⟨e, -⟩ | ⟨-, -, e, -⟩
      · rw [e]; exact ((kd2 (by decide) w.1).trans (if_pos e0)).symm
      · rw [e]; exact ((kd2 (by decide) w.1).trans (if_pos e0)).symm
      · exact absurd e p2
    · rw [hX.sum, hX.1.odds _ p1] at p4
      rw [p2, cl_n (by omega)]
      refine ⟨fun q => q.2.2 p4, fun w9 e => ?_⟩
      rcases e with ⟨-, e⟩ | ⟨-, -, e⟩ | ⟨e, -⟩
      · exact absurd (inr_n (by omega) p1) e
      · exact absurd p3 e
      · rw [e]; exact ((kd2 (by decide) w.1).trans (if_neg (by omega))).symm
  · show ¬ (if _ = _ then (1 : Int32) else 2) = 0
    split <;> decide
set_option maxHeartbeats 4000000 in
theorem eq_pass {c : Nat} {z : OS} {M : CT} (h : REL c z M) (hc : c ≤ 600) {f : Nat → Int64} (z1 : Int32) {r : Int32} {v : (Int32 × Nat) ⊕ Unit} {r2 : Int32} {M2 : CT} (hv : wP (fun _ => 1) (fun r9 (w : Nat) => (1 ≤ w ∧ w ≤ 200 ∧ z1 = nI w) ∧ r9 = s_days w (zS z) 16 3 - (zS z) 16 3) (fun (_ : Unit) => ¬ (¬ z1 < 1 ∧ ¬ nI 200 < z1)) r v) (h2 : (fun r (u : CT) => ((¬ z1 < 1 ∧ ¬ 200 < z1) ∧ m_days (cl z1) (M 0) 11 - M 0 11 = r ∧ (ur (us (us (ur (us M 8 2 0) 3 (va_cpy (M 0) (M 3) 0 (242 * (((cl (M 8 1)) + (cl (M 8 0))) % 8)) 242)) 8 1 (nI (if (cl (M 8 0)) = 8 then ((cl (M 8 1)) + 1) % 8 else (cl (M 8 1))))) 8 0 (nI (min ((cl (M 8 0)) + 1) 8))) 0 (m_days (cl z1) (M 0))) = u) ∨ ((¬ (¬ z1 < 1 ∧ ¬ 200 < z1)) ∧ 0 = r ∧ (us M 8 2 1) = u)) r2 M2) : M2 8 2 = r ∧ (r = 0 → fW f v 0 = r2.toInt64) ∧ REL (c + 1) (zW (fun w => zR z (s_days w (zS z))) (fun _ => z) v) M2 := by
  have hV : vcO (zS z) = m_vc (M 0) := h.1.1.vc
  have hF : fcO (zS z) = m_fc (M 0) := h.1.1.fc
  have hB : bcO (zS z) = m_bc (M 0) := h.1.1.bc
  have hMc : mcO (zS z) = m_mc (M 0) := h.1.1.mc
  have bV := h.vc.2
  have bF := h.fc.2
  have bB := h.bc.2
  have bM := h.mc.2
  obtain ⟨hX, hY⟩ := h.1.xc
  have hD : dB c ≤ 1000000 := by unfold dB; omega
  try simp only [hV, hF, hB, hMc] at hv ⊢
  have h11 := (h.1).1.1 3 (by decide)
  refine q2 (C := ¬ z1 < 1 ∧ ¬ 200 < z1) (N := hM M (cl (M 8 0)) (cl (M 8 1)) (m_days (cl z1) (M 0))) (val := m_days (cl z1) (M 0) 11 - M 0 11) h hv h2 (fun r w p => ?_) (fun _ p => p)
  obtain ⟨⟨p1, p2, rfl⟩, p3⟩ := p
  have hS := (h.1.days w).1.1 3 (by decide)
  refine ⟨⟨nI_nlt (b := 1) p1 (by omega), nI_nlt (a := 200) p2 (by decide)⟩, ?_, rfl, ?_⟩
  · rw [p3, cl_n (by omega), hS, h11]; rfl
  · rw [cl_n (by omega)]
    exact h.push ((h.1.days w).mono (by unfold dB; omega))
set_option maxHeartbeats 4000000 in
theorem eq_writePage {c : Nat} {z : OS} {M : CT} (h : REL c z M) (hc : c ≤ 600) {f : Nat → Int64} (z1 : Int32) {r : Int32} {v : (Int32 × Nat) ⊕ Unit} {r2 : Int32} {M2 : CT} (hv : wP (fun _ => 1) (fun r9 (w : Nat) => (4 * w < bcO (zS z) ∧ z1 = nI w) ∧ r9 = nI (b_page (zS z) w ((zo z).1, 0)).2) (fun (_ : Unit) => ¬ (¬ z1 < 0 ∧ z1 < nI ((bcO (zS z) + 4 - 1) / 4))) r v) (h2 : (fun r (u : CT) => ((inr z1 (((m_bc (M 0)) + 4 - 1) / 4)) ∧ nI ((w_page (M 0) (cl z1) (m_bc (M 0)) (M 7, 0)).2) = r ∧ (outW (us M 8 2 0) (w_page (M 0) (cl z1) (m_bc (M 0)) (M 7, 0))) = u) ∨ ((¬ inr z1 (((m_bc (M 0)) + 4 - 1) / 4)) ∧ 0 = r ∧ (us M 8 2 1) = u)) r2 M2) : M2 8 2 = r ∧ (r = 0 → fW f v 0 = r2.toInt64) ∧ REL (c + 1) (zW (fun w => zOut z (b_page (zS z) w ((zo z).1, 0))) (fun _ => z) v) M2 := by
  have hV : vcO (zS z) = m_vc (M 0) := h.1.1.vc
  have hF : fcO (zS z) = m_fc (M 0) := h.1.1.fc
  have hB : bcO (zS z) = m_bc (M 0) := h.1.1.bc
  have hMc : mcO (zS z) = m_mc (M 0) := h.1.1.mc
  have bV := h.vc.2
  have bF := h.fc.2
  have bB := h.bc.2
  have bM := h.mc.2
  obtain ⟨hX, hY⟩ := h.1.xc
  have hD : dB c ≤ 1000000 := by unfold dB; omega
  try simp only [hV, hF, hB, hMc] at hv ⊢
  refine q2 (C := inr z1 ((m_bc (M 0) + 4 - 1) / 4)) (N := outW (us M 8 2 0) (w_page (M 0) (cl z1) (m_bc (M 0)) (M 7, 0))) h hv h2 (fun r w p => ?_) (fun _ p => p)
  obtain ⟨⟨p1, rfl⟩, p3⟩ := p
  have hP := hX.page p1 (zo z).1 (M 7)
  refine ⟨inr_n (by omega) (by omega), ?_, us822 M 0, ?_⟩
  · rw [p3, cl_n (by omega), hP.1.1]
  · rw [cl_n (by omega)]
    obtain ⟨a1, ⟨un, u0, b1, b2, b3, b4, b5, b6, b7⟩, a3, a4, -, a6, a7⟩ := h.thr 0
    exact ⟨a1, ⟨un, u0, b1, b2, b3, b4, b5, b6, b7⟩, a3, a4, ⟨_, Nat.le_trans hP.2 (by decide), rfl, congrArg nI hP.1.1.symm, hP.1.2⟩, a6, a7⟩
set_option maxHeartbeats 4000000 in
theorem eq_outputByte {c : Nat} {z : OS} {M : CT} (h : REL c z M) (hc : c ≤ 600) {f : Nat → Int64} (z1 : Int32) {r : Int32} {v : (Int32 × Nat) ⊕ Unit} {r2 : Int32} {M2 : CT} (hv : wP (fun _ => 1) (fun r9 (w : Nat) => w < (zo z).2 ∧ z1 = nI w ∧ r9 = (zo z).1 w &&& 255) (fun (_ : Unit) => ¬ (¬ z1 < 0 ∧ ¬ nI (zo z).2 - 1 < z1)) r v) (h2 : (fun r (u : CT) => ((inr z1 (cl (M 8 11))) ∧ M 7 (cl z1) = r ∧ (us M 8 2 0) = u) ∨ ((¬ inr z1 (cl (M 8 11))) ∧ 0 = r ∧ (us M 8 2 1) = u)) r2 M2) : M2 8 2 = r ∧ (r = 0 → fW f v 0 = r2.toInt64) ∧ REL (c + 1) (zW (fun w => z) (fun _ => z) v) M2 := by
  have hV : vcO (zS z) = m_vc (M 0) := h.1.1.vc
  have hF : fcO (zS z) = m_fc (M 0) := h.1.1.fc
  have hB : bcO (zS z) = m_bc (M 0) := h.1.1.bc
  have hMc : mcO (zS z) = m_mc (M 0) := h.1.1.mc
  have bV := h.vc.2
  have bF := h.fc.2
  have bB := h.bc.2
  have bM := h.mc.2
  obtain ⟨hX, hY⟩ := h.1.xc
  have hD : dB c ≤ 1000000 := by unfold dB; omega
  try simp only [hV, hF, hB, hMc] at hv ⊢
  obtain ⟨ol, o1, o2, o3, o4⟩ := h.2.2.2.2.1
  have ho : cl (M 8 11) = ol := by rw [o3, cl_n (by omega)]
  rw [ho] at h2
  refine q2 (C := inr z1 ol) h hv h2 (fun r w p => ?_) (fun _ p q => p ?_)
  · obtain ⟨p1, rfl, p3⟩ := p
    rw [o2] at p1
    refine ⟨inr_n (by omega) p1, ?_, us822 M 0, h.thr 0⟩
    rw [p3, cl_n (by omega)]
    exact o4 w p1
  · rw [o2]
    exact (in_m1 (by omega)).mpr q
set_option maxHeartbeats 4000000 in
theorem eq_save {c : Nat} {z : OS} {M : CT} (h : REL c z M) (hc : c ≤ 600) {f : Nat → Int64} (z1 : Int32) {r : Int32} {v : (Int32 × Nat) ⊕ Unit} {r2 : Int32} {M2 : CT} (hv : wP (fun _ => 1) (fun r9 (w : Nat) => (w < 2 ∧ z1 = nI w) ∧ r9 = (zS z) 16 0) (fun (_ : Unit) => ¬ (¬ z1 < 0 ∧ ¬ 1 < z1)) r v) (h2 : (fun r (u : CT) => ((¬ z1 < 0 ∧ ¬ 1 < z1) ∧ M 0 5 = r ∧ (us (ur (us M 8 2 0) 4 (va_cpy (M 0) (M 4) 0 (242 * cl z1) 242)) 5 (cl z1) (vp_nar .boolean 1)) = u) ∨ ((¬ (¬ z1 < 0 ∧ ¬ 1 < z1)) ∧ 0 = r ∧ (us M 8 2 1) = u)) r2 M2) : M2 8 2 = r ∧ (r = 0 → fW f v 0 = r2.toInt64) ∧ REL (c + 1) (zW (fun w => zSv z w) (fun _ => z) v) M2 := by
  have hV : vcO (zS z) = m_vc (M 0) := h.1.1.vc
  have hF : fcO (zS z) = m_fc (M 0) := h.1.1.fc
  have hB : bcO (zS z) = m_bc (M 0) := h.1.1.bc
  have hMc : mcO (zS z) = m_mc (M 0) := h.1.1.mc
  have bV := h.vc.2
  have bF := h.fc.2
  have bB := h.bc.2
  have bM := h.mc.2
  obtain ⟨hX, hY⟩ := h.1.xc
  have hD : dB c ≤ 1000000 := by unfold dB; omega
  try simp only [hV, hF, hB, hMc] at hv ⊢
  refine q2 (C := ¬ z1 < 0 ∧ ¬ 1 < z1) (N := us (ur (us M 8 2 0) 4 (va_cpy (M 0) (M 4) 0 (242 * cl z1) 242)) 5 (cl z1) (vp_nar .boolean 1)) h hv h2 (fun r w p => ?_) (fun _ p => p)
  obtain ⟨⟨p1, rfl⟩, p3⟩ := p
  refine ⟨⟨nI_nneg (by omega), nI_nlt (a := 1) (by omega) (by decide)⟩, ?_, us822 M 0, ?_⟩
  · rw [p3]; exact hX.1.c16 0 (by decide)
  · rw [cl_n (by omega)]
    exact h.sv p1
set_option maxHeartbeats 4000000 in
theorem eq_restore {c : Nat} {z : OS} {M : CT} (h : REL c z M) (hc : c ≤ 600) {f : Nat → Int64} (z1 : Int32) {r : Int32} {v : (Int32 × Nat) ⊕ Nat × Nat} {r2 : Int32} {M2 : CT} (hv : wP (fun u => if ((fun u => if u.1 = 0 then eIOOB else eISE) u) = eIOOB then 1 else 2) (fun r9 (w : Nat) => (w < 2 ∧ z1 = nI w) ∧ ¬ (zf z) w = 0 ∧ r9 = (zL z) w 16 0) (fun (u : Nat × Nat) => (u.1 = 0 ∧ ¬ (¬ z1 < 0 ∧ ¬ 1 < z1)) ∨ (u.1 = 1 ∧ (u.2 < 2 ∧ z1 = nI u.2) ∧ (zf z) u.2 = 0)) r v) (h2 : (fun r (u : CT) => (((¬ z1 < 0 ∧ ¬ 1 < z1) ∧ ¬ M 5 (cl z1) = 0) ∧ M 4 (242 * cl z1 + 5) = r ∧ (ur (us (us (ur (us M 8 2 0) 3 (va_cpy (M 0) (M 3) 0 (242 * (((cl (M 8 1)) + (cl (M 8 0))) % 8)) 242)) 8 1 (nI (if (cl (M 8 0)) = 8 then ((cl (M 8 1)) + 1) % 8 else (cl (M 8 1))))) 8 0 (nI (min ((cl (M 8 0)) + 1) 8))) 0 (fun j => M 4 (242 * cl z1 + j))) = u) ∨ ((¬ (¬ z1 < 0 ∧ ¬ 1 < z1)) ∧ 0 = r ∧ (us M 8 2 1) = u) ∨ (((¬ z1 < 0 ∧ ¬ 1 < z1) ∧ M 5 (cl z1) = 0) ∧ 0 = r ∧ (us M 8 2 2) = u)) r2 M2) : M2 8 2 = r ∧ (r = 0 → fW f v 0 = r2.toInt64) ∧ REL (c + 1) (zW (fun w => zR z (zL z w)) (fun _ => z) v) M2 := by
  have hV : vcO (zS z) = m_vc (M 0) := h.1.1.vc
  have hF : fcO (zS z) = m_fc (M 0) := h.1.1.fc
  have hB : bcO (zS z) = m_bc (M 0) := h.1.1.bc
  have hMc : mcO (zS z) = m_mc (M 0) := h.1.1.mc
  have bV := h.vc.2
  have bF := h.fc.2
  have bB := h.bc.2
  have bM := h.mc.2
  obtain ⟨hX, hY⟩ := h.1.xc
  have hD : dB c ≤ 1000000 := by unfold dB; omega
  try simp only [hV, hF, hB, hMc] at hv ⊢
  have hL := h.2.2.1
  refine qN (C := (¬ z1 < 0 ∧ ¬ 1 < z1) ∧ ¬ M 5 (cl z1) = 0) (E := fun w => (w = 1 ∧ ¬ (¬ z1 < 0 ∧ ¬ 1 < z1)) ∨ (w = 2 ∧ (¬ z1 < 0 ∧ ¬ 1 < z1) ∧ M 5 (cl z1) = 0)) (val := M 4 (242 * cl z1 + 5)) (N := hM M (cl (M 8 0)) (cl (M 8 1)) (fun j => M 4 (242 * cl z1 + j))) (z1 := fun w : Nat => zR z (zL z w)) h hv ?_ (fun r w p => ?_) (fun w p => ?_) (fun w => ?_)
  · rcases h2 with d | ⟨d1, d2⟩ | ⟨d1, d2⟩
    · exact Or.inl d
    · exact Or.inr ⟨1, Or.inl ⟨rfl, d1⟩, d2⟩
    · exact Or.inr ⟨2, Or.inr ⟨rfl, d1⟩, d2⟩
  · obtain ⟨⟨p1, rfl⟩, p2, p3⟩ := p
    obtain ⟨l1, l2⟩ := hL w p1
    rw [l1] at p2
    rw [cl_n (by omega)]
    refine ⟨fun w9 e => ?_, ?_, rfl, h.push ((l2 p2).mono (dB_succ c))⟩
    · rcases e with ⟨-, e⟩ | ⟨-, -, e⟩
      · exact e ⟨nI_nneg (by omega), nI_nlt (a := 1) (by omega) (by decide)⟩
      · exact p2 e
    · rw [p3]; exact (l2 p2).1.1 0 (by decide)
  · rcases p with ⟨e0, p1⟩ | ⟨e0, ⟨p1, p2⟩, p3⟩
    · refine ⟨fun q => p1 q.1, fun w9 e => ?_⟩
      rcases e with ⟨e, -⟩ | ⟨-, e, -⟩
      · rw [e]; exact ((kd2 (by decide) w.1).trans (if_pos e0)).symm
      · exact absurd e p1
    · rw [(hL w.2 p1).1] at p3
      rw [p2, cl_n (by omega)]
      refine ⟨fun q => q.2 p3, fun w9 e => ?_⟩
      rcases e with ⟨-, e⟩ | ⟨e, -⟩
      · exact absurd ⟨nI_nneg (by omega), nI_nlt (a := 1) (by omega) (by decide)⟩ e
      · rw [e]; exact ((kd2 (by decide) w.1).trans (if_neg (by omega))).symm
  · show ¬ (if _ = _ then (1 : Int32) else 2) = 0
    split <;> decide
set_option maxHeartbeats 4000000 in
theorem eq_undo {c : Nat} {z : OS} {M : CT} (h : REL c z M) (hc : c ≤ 600) {f : Nat → Int64} {r : Int32} {v : (Int32 × Unit) ⊕ Unit} {r2 : Int32} {M2 : CT} (hv : wP (fun _ => 1) (fun r9 (_ : Unit) => 0 < (zk z) ∧ r9 = nI ((zk z) - 1)) (fun (_ : Unit) => (zk z) = 0) r v) (h2 : (fun r (u : CT) => ((0 < (cl (M 8 0))) ∧ nI ((cl (M 8 0)) - 1) = r ∧ (ur (us (us M 8 2 0) 8 0 (nI ((cl (M 8 0)) - 1))) 0 (fun j => M 3 (242 * (((cl (M 8 1)) + ((cl (M 8 0)) - 1)) % 8) + j))) = u) ∨ (((cl (M 8 0)) = 0) ∧ 0 = r ∧ (us M 8 2 1) = u)) r2 M2) : M2 8 2 = r ∧ (r = 0 → fW f v 0 = r2.toInt64) ∧ REL (c + 1) (zW (fun w => zUn z) (fun _ => z) v) M2 := by
  have hV : vcO (zS z) = m_vc (M 0) := h.1.1.vc
  have hF : fcO (zS z) = m_fc (M 0) := h.1.1.fc
  have hB : bcO (zS z) = m_bc (M 0) := h.1.1.bc
  have hMc : mcO (zS z) = m_mc (M 0) := h.1.1.mc
  have bV := h.vc.2
  have bF := h.fc.2
  have bB := h.bc.2
  have bM := h.mc.2
  obtain ⟨hX, hY⟩ := h.1.xc
  have hD : dB c ≤ 1000000 := by unfold dB; omega
  try simp only [hV, hF, hB, hMc] at hv ⊢
  have hk : zk z = cl (M 8 0) := by
    obtain ⟨un, u0, b1, b2, -, -, b5, -⟩ := h.2.1
    rw [b5, b1, cl_n (by omega)]
  refine qN (C := 0 < cl (M 8 0)) (E := fun w => w = 1 ∧ cl (M 8 0) = 0) (val := nI (cl (M 8 0) - 1)) (N := ur (us (us M 8 2 0) 8 0 (nI (cl (M 8 0) - 1))) 0 (fun j => M 3 (242 * ((cl (M 8 1) + (cl (M 8 0) - 1)) % 8) + j))) (z1 := fun _ : Unit => zUn z) h hv ?_ (fun r w p => ?_) (fun w p => ?_) (fun _ => by decide)
  · rcases h2 with d | ⟨d1, d2⟩
    · exact Or.inl d
    · exact Or.inr ⟨1, ⟨rfl, d1⟩, d2⟩
  · obtain ⟨p1, p2⟩ := p
    rw [hk] at p1 p2
    exact ⟨fun w9 e => by omega, p2, rfl, h.un1 p1⟩
  · have p : zk z = 0 := p
    rw [hk] at p
    exact ⟨fun q => by omega, fun w9 e => e.1⟩

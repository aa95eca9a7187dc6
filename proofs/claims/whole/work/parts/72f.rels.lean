theorem us82 (M : CT) (w : Int32) (j : Nat) (h : j ≠ 2) : us M 8 2 w 8 j = M 8 j := by
  show (if (8 : Nat) = 8 then upd (M 8) 2 w else M 8) j = M 8 j
  rw [if_pos rfl]
  exact pk_un h
theorem us82r (M : CT) (w : Int32) (r : Nat) (h : r ≠ 8) : us M 8 2 w r = M r := by
  show (if r = 8 then upd (M 8) 2 w else M r) = M r
  rw [if_neg h]
theorem us822 (M : CT) (w : Int32) : us M 8 2 w 8 2 = w := by
  show (if (8 : Nat) = 8 then upd (M 8) 2 w else M 8) 2 = w
  rw [if_pos rfl]
  exact pk_us
theorem dB_succ (n : Nat) : dB n ≤ dB (n + 1) := by unfold dB; omega
/-- a question changes nothing -/
theorem REL.next {n : Nat} {z : OS} {M M2 : CT} (h : REL n z M) (h0 : M2 0 = M 0) (h3 : M2 3 = M 3) (h4 : M2 4 = M 4) (h5 : M2 5 = M 5) (h6 : M2 6 = M 6) (h7 : M2 7 = M 7) (h8 : ∀ j, j ≠ 2 → M2 8 j = M 8 j) : REL (n + 1) z M2 := by
  obtain ⟨a1, ⟨un, u0, b1, b2, b3, b4, b5, b6, b7⟩, a3, a4, a5, a6, a7⟩ := h
  refine ⟨by rw [h0]; exact a1.mono (dB_succ n), ⟨un, u0, by rw [h8 0 (by decide)]; exact b1, b2, by rw [h8 1 (by decide)]; exact b3, b4, b5, b6, fun i hi => by rw [h3]; exact (b7 i hi).mono (dB_succ n)⟩, fun w hw => by rw [h5, h4]; exact ⟨(a3 w hw).1, fun hz => ((a3 w hw).2 hz).mono (dB_succ n)⟩, ?_, ?_, by rw [h8 9 (by decide)]; exact a6, by rw [h8 10 (by decide)]; exact a7⟩
  · rw [h8 3 (by decide), h6]; exact a4
  · rw [h8 11 (by decide), h7]; exact a5
theorem REL.thr {n : Nat} {z : OS} {M : CT} (h : REL n z M) (w : Int32) : REL (n + 1) z (us M 8 2 w) := h.next (us82r M w 0 (by decide)) (us82r M w 3 (by decide)) (us82r M w 4 (by decide)) (us82r M w 5 (by decide)) (us82r M w 6 (by decide)) (us82r M w 7 (by decide)) (us82 M w)
/-! THE PURE EQUIVALENCE: the office and the model behind a call -/
/-- the model remembers, and goes on with another row -/
def hM (M : CT) (un u0 : Nat) (g9 : RT) : CT := ur (us (us (ur (us M 8 2 0) 3 (va_cpy (M 0) (M 3) 0 (242 * ((u0 + un) % 8)) 242)) 8 1 (nI (if un = 8 then (u0 + 1) % 8 else u0))) 8 0 (nI (min (un + 1) 8))) 0 g9
theorem hM_us (M : CT) (un u0 j : Nat) (x : Int32) : us (us (us (ur (us M 8 2 0) 3 (va_cpy (M 0) (M 3) 0 (242 * ((u0 + un) % 8)) 242)) 8 1 (nI (if un = 8 then (u0 + 1) % 8 else u0))) 8 0 (nI (min (un + 1) 8))) 0 j x = hM M un u0 (upd (M 0) j x) := rfl
theorem cl_n {n : Nat} (h : n < 2 ^ 31) : cl (nI n) = n := nI_clamp h
theorem cpy_new (f m : RT) (p j : Nat) (h : j < 242) : va_cpy f m 0 (242 * p) 242 (242 * p + j) = f j := by
  rw [va_cpy, if_pos (by omega), show 0 + (242 * p + j - 242 * p) = j by omega]
theorem cpy_old (f m : RT) (p q j : Nat) (h : j < 242) (hq : q ≠ p) : va_cpy f m 0 (242 * p) 242 (242 * q + j) = m (242 * q + j) := by
  rw [va_cpy, if_neg (by omega)]
section MOVE
variable {n : Nat} {z : OS} {M : CT}
theorem REL.push (h : REL n z M) {S9 : CT} {g9 : RT} (h9 : SR (dB (n + 1)) S9 g9) : REL (n + 1) (zR z S9) (hM M (cl (M 8 0)) (cl (M 8 1)) g9) := by
  obtain ⟨a1, ⟨un, u0, b1, b2, b3, b4, b5, b6, b7⟩, a3, a4, a5, a6, a7⟩ := h
  rw [b1, b3, cl_n (by omega), cl_n (by omega)]
  have e8 : ∀ j, j ≠ 0 → j ≠ 1 → j ≠ 2 → hM M un u0 g9 8 j = M 8 j := fun j q0 q1 q2 => by
    show upd (upd (upd (M 8) 2 0) 1 (nI (if un = 8 then (u0 + 1) % 8 else u0))) 0 (nI (min (un + 1) 8)) j = _
    rw [pk_un q0, pk_un q1, pk_un q2]
  refine ⟨h9, ⟨min (un + 1) 8, if un = 8 then (u0 + 1) % 8 else u0, ?_, by omega, ?_, by split <;> omega, by show min (zk z + 1) 8 = _; rw [b5], ?_, fun i hi => ?_⟩, fun w hw => ⟨(a3 w hw).1, fun hz => ((a3 w hw).2 hz).mono (dB_succ n)⟩, ?_, ?_, ?_, ?_⟩
  · show upd (upd (upd (M 8) 2 0) 1 (nI (if un = 8 then (u0 + 1) % 8 else u0))) 0 (nI (min (un + 1) 8)) 0 = _
    rw [pk_us]
  · show upd (upd (upd (M 8) 2 0) 1 (nI (if un = 8 then (u0 + 1) % 8 else u0))) 0 (nI (min (un + 1) 8)) 1 = _
    rw [pk_un (by decide), pk_us]
  · show (zn z + 1) % 8 = _
    rw [b6]
    split <;> omega
  · show SR (dB (n + 1)) (updT (zT z) (zn z) (zS z) (((if un = 8 then (u0 + 1) % 8 else u0) + i) % 8)) (fun j => va_cpy (M 0) (M 3) 0 (242 * ((u0 + un) % 8)) 242 (242 * (((if un = 8 then (u0 + 1) % 8 else u0) + i) % 8) + j))
    generalize hp : ((if un = 8 then (u0 + 1) % 8 else u0) + i) % 8 = p
    by_cases q : p = (u0 + un) % 8
    · rw [updT, if_pos (by rw [b6]; exact q), q]
      exact (a1.mono (dB_succ n)).congr (fun j hj => cpy_new _ _ _ _ hj)
    · rw [updT, if_neg (by rw [b6]; exact q)]
      have hi' : ∃ i', i' < un ∧ p = (u0 + i') % 8 := by
        by_cases e : un = 8
        · rw [if_pos e] at hp
          exact ⟨i + 1, by omega, by omega⟩
        · rw [if_neg e] at hp
          refine ⟨i, ?_, by omega⟩
          rcases Nat.lt_or_ge i un with y | y
          · exact y
          · exact absurd (show p = (u0 + un) % 8 by rw [← hp, show i = un by omega]) q
      obtain ⟨i', i1, i2⟩ := hi'
      rw [i2] at q ⊢
      exact ((b7 i' i1).mono (dB_succ n)).congr (fun j hj => cpy_old _ _ _ _ _ hj q)
  · rw [e8 3 (by decide) (by decide) (by decide)]; exact a4
  · rw [e8 11 (by decide) (by decide) (by decide)]; exact a5
  · rw [e8 9 (by decide) (by decide) (by decide)]; exact a6
  · rw [e8 10 (by decide) (by decide) (by decide)]; exact a7
theorem REL.sv (h : REL n z M) {w : Nat} (hw : w < 2) : REL (n + 1) (zSv z w) (us (ur (us M 8 2 0) 4 (va_cpy (M 0) (M 4) 0 (242 * w) 242)) 5 w (vp_nar .boolean 1)) := by
  obtain ⟨a1, ⟨un, u0, b1, b2, b3, b4, b5, b6, b7⟩, a3, a4, a5, a6, a7⟩ := h
  have h8 := fun j (hj : j ≠ 2) => us82 M 0 j hj
  refine ⟨a1.mono (dB_succ n), ⟨un, u0, (h8 0 (by decide)).trans b1, b2, (h8 1 (by decide)).trans b3, b4, b5, b6, fun i hi => (b7 i hi).mono (dB_succ n)⟩, fun v hv => ?_, ?_, ?_, a6.trans (h8 9 (by decide)).symm, a7.trans (h8 10 (by decide)).symm⟩
  · have e5 : us (ur (us M 8 2 0) 4 (va_cpy (M 0) (M 4) 0 (242 * w) 242)) 5 w (vp_nar .boolean 1) 5 v = upd (M 5) w 1 v := rfl
    rw [e5]
    show upd (zf z) w 1 v = _ ∧ (_ → SR (dB (n + 1)) (updT (zL z) w (zS z) v) (fun j => va_cpy (M 0) (M 4) 0 (242 * w) 242 (242 * v + j)))
    by_cases q : v = w
    · subst q
      refine ⟨by rw [pk_us, pk_us], fun _ => ?_⟩
      rw [updT, if_pos rfl]
      exact (a1.mono (dB_succ n)).congr (fun j hj => cpy_new _ _ _ _ hj)
    · refine ⟨by rw [pk_un q, pk_un q]; exact (a3 v hv).1, fun hz => ?_⟩
      rw [pk_un q] at hz
      rw [updT, if_neg q]
      exact (((a3 v hv).2 hz).mono (dB_succ n)).congr (fun j hj => cpy_old _ _ _ _ _ hj q)
  · rw [show us (ur (us M 8 2 0) 4 (va_cpy (M 0) (M 4) 0 (242 * w) 242)) 5 w (vp_nar .boolean 1) 8 3 = M 8 3 from h8 3 (by decide)]; exact a4
  · rw [show us (ur (us M 8 2 0) 4 (va_cpy (M 0) (M 4) 0 (242 * w) 242)) 5 w (vp_nar .boolean 1) 8 11 = M 8 11 from h8 11 (by decide)]; exact a5
theorem REL.un1 (h : REL n z M) (h0 : 0 < cl (M 8 0)) : REL (n + 1) (zUn z) (ur (us (us M 8 2 0) 8 0 (nI (cl (M 8 0) - 1))) 0 (fun j => M 3 (242 * ((cl (M 8 1) + (cl (M 8 0) - 1)) % 8) + j))) := by
  obtain ⟨a1, ⟨un, u0, b1, b2, b3, b4, b5, b6, b7⟩, a3, a4, a5, a6, a7⟩ := h
  have k1 : cl (M 8 0) = un := by rw [b1, cl_n (by omega)]
  have k2 : cl (M 8 1) = u0 := by rw [b3, cl_n (by omega)]
  rw [k1] at h0
  rw [k1, k2]
  have hz : (zn z + 7) % 8 = (u0 + (un - 1)) % 8 := by rw [b6]; omega
  have e8 : ∀ j, j ≠ 0 → j ≠ 2 → ur (us (us M 8 2 0) 8 0 (nI (un - 1))) 0 (fun j => M 3 (242 * ((u0 + (un - 1)) % 8) + j)) 8 j = M 8 j := fun j q0 q2 => by
    show upd (upd (M 8) 2 0) 0 (nI (un - 1)) j = _
    rw [pk_un q0, pk_un q2]
  refine ⟨?_, ⟨un - 1, u0, ?_, by omega, (e8 1 (by decide) (by decide)).trans b3, b4, by show zk z - 1 = _; rw [b5], hz, fun i hi => (b7 i (by omega)).mono (dB_succ n)⟩, fun w hw => ⟨(a3 w hw).1, fun hz => ((a3 w hw).2 hz).mono (dB_succ n)⟩, ?_, ?_, a6.trans (e8 9 (by decide) (by decide)).symm, a7.trans (e8 10 (by decide) (by decide)).symm⟩
  · show SR (dB (n + 1)) (zT z ((zn z + 7) % 8)) (fun j => M 3 (242 * ((u0 + (un - 1)) % 8) + j))
    rw [hz]
    exact (b7 (un - 1) (by omega)).mono (dB_succ n)
  · show upd (upd (M 8) 2 0) 0 (nI (un - 1)) 0 = _
    rw [pk_us]
  · rw [e8 3 (by decide) (by decide)]; exact a4
  · rw [e8 11 (by decide) (by decide)]; exact a5
end MOVE
section QS
variable {S SY : Type} {c : Nat} {z : OS} {M N M2 : CT} {f : Nat → Int64} {post : Int32 → S → Prop} {px : SY → Prop} {kd : SY → Int32} {z1 : S → OS} {r r2 val : Int32} {v : (Int32 × S) ⊕ SY} {C : Prop} {E : Int32 → Prop}
/-- a call that answers or throws -/
theorem qN (h : REL c z M) (hv : wP kd post px r v) (h2 : (C ∧ val = r2 ∧ N = M2) ∨ ∃ w, E w ∧ 0 = r2 ∧ us M 8 2 w = M2) (hp : ∀ r w, post r w → (∀ w9, ¬ E w9) ∧ r = val ∧ N 8 2 = 0 ∧ REL (c + 1) (z1 w) N) (hx : ∀ w, px w → ¬ C ∧ ∀ w9, E w9 → w9 = kd w) (hk : ∀ w, ¬ kd w = 0) : M2 8 2 = r ∧ (r = 0 → fW f v 0 = r2.toInt64) ∧ REL (c + 1) (zW z1 (fun _ => z) v) M2 := by
  cases v with
  | inl u =>
    obtain ⟨hr, hpo⟩ := hv
    obtain ⟨c1, c2, c3, c4⟩ := hp u.1 u.2 hpo
    rcases h2 with ⟨-, d2, d3⟩ | ⟨w, d1, -⟩
    · subst d3
      refine ⟨c3.trans hr.symm, fun _ => ?_, c4⟩
      rw [← d2, ← c2]
      rfl
    · exact absurd d1 (c1 w)
  | inr u =>
    obtain ⟨hpo, hr⟩ := hv
    obtain ⟨c1, c2⟩ := hx u hpo
    rcases h2 with ⟨d1, -⟩ | ⟨w, d1, d2, d3⟩
    · exact absurd d1 c1
    · subst d3
      rw [c2 w d1]
      exact ⟨(us822 M _).trans hr.symm, fun e => absurd (hr.symm.trans e) (hk u), h.thr _⟩
theorem q2 (h : REL c z M) (hv : wP (fun _ => 1) post px r v) (h2 : (C ∧ val = r2 ∧ N = M2) ∨ (¬ C ∧ 0 = r2 ∧ us M 8 2 1 = M2)) (hp : ∀ r w, post r w → C ∧ r = val ∧ N 8 2 = 0 ∧ REL (c + 1) (z1 w) N) (hx : ∀ w, px w → ¬ C) : M2 8 2 = r ∧ (r = 0 → fW f v 0 = r2.toInt64) ∧ REL (c + 1) (zW z1 (fun _ => z) v) M2 := by
  refine qN (C := C) (E := fun w => w = 1 ∧ ¬ C) (val := val) (N := N) h hv ?_ (fun r w p => ?_) (fun w p => ⟨hx w p, fun w9 e => e.1⟩) (fun _ => by decide)
  · rcases h2 with d | d
    · exact Or.inl d
    · exact Or.inr ⟨1, ⟨rfl, d.1⟩, d.2⟩
  · obtain ⟨e1, e2⟩ := hp r w p
    exact ⟨fun w9 e => e.2 e1, e2⟩
/-- a question that answers yes or no -/
theorem qB {C1 C0 : Prop} (h : REL c z M) (hv : wP (fun _ => 1) post px r v) (h2 : (C1 ∧ 1 = r2 ∧ us M 8 2 0 = M2) ∨ (C0 ∧ 0 = r2 ∧ us M 8 2 0 = M2) ∨ (C ∧ 0 = r2 ∧ us M 8 2 1 = M2)) (hp : ∀ r w, post r w → ¬ C ∧ ((r = 1 ∧ ¬ C0) ∨ (r = 0 ∧ ¬ C1))) (hx : ∀ w, px w → ¬ C1 ∧ ¬ C0) : M2 8 2 = r ∧ (r = 0 → fWb f v 0 = if r2 = 0 then 0 else 1) ∧ REL (c + 1) (zW (fun _ => z) (fun _ => z) v) M2 := by
  cases v with
  | inl u =>
    obtain ⟨hr, hpo⟩ := hv
    obtain ⟨c1, c2⟩ := hp u.1 u.2 hpo
    have hb : fWb f (.inl u : (Int32 × S) ⊕ SY) 0 = if u.1 = 0 then 0 else 1 := rfl
    rcases h2 with ⟨d1, d2, d3⟩ | ⟨d1, d2, d3⟩ | ⟨d1, -⟩
    · subst d3
      refine ⟨(us822 M 0).trans hr.symm, fun _ => ?_, h.thr 0⟩
      rcases c2 with ⟨e1, e2⟩ | ⟨e1, e2⟩
      · rw [hb, e1, ← d2]
      · exact absurd d1 e2
    · subst d3
      refine ⟨(us822 M 0).trans hr.symm, fun _ => ?_, h.thr 0⟩
      rcases c2 with ⟨e1, e2⟩ | ⟨e1, e2⟩
      · exact absurd d1 e2
      · rw [hb, e1, ← d2]
    · exact absurd d1 c1
  | inr u =>
    obtain ⟨hpo, hr⟩ := hv
    obtain ⟨c1, c2⟩ := hx u hpo
    rcases h2 with ⟨d1, -⟩ | ⟨d1, -⟩ | ⟨d1, d2, d3⟩
    · exact absurd d1 c1
    · exact absurd d1 c2
    · subst d3
      exact ⟨(us822 M _).trans hr.symm, fun e => absurd (show (1 : Int32) = 0 from hr.symm.trans e) (by decide), h.thr _⟩
end QS
theorem in3 (v : Int32) : (¬ v < 0 ∧ ¬ 2 < v) ↔ inr v 3 := by
  unfold inr
  rw [show nI 3 = 3 from rfl, fa_lt, fa_lt, fa_lt, show (0 : Int32).toInt = 0 by decide, show (2 : Int32).toInt = 2 by decide, show (3 : Int32).toInt = 3 by decide]
  omega
theorem inr_n {w n : Nat} (hn : n < 2 ^ 31) (h : w < n) : inr (nI w) n := ⟨nI_nneg (by omega), (nI_ltI (by omega) hn).mpr h⟩

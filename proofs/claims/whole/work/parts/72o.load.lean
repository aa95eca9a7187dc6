/-! THE PURE EQUIVALENCE: load, and the beginning -/
theorem REL.rd {n : Nat} {z : OS} {M : CT} (h : REL n z M) (il : Nat) {T : PS RT} {t : PS CT} (e : T.2 = t.2) (w : Int32) : REL n (zLf z t) (us (us (pX (us M 8 2 0) il T) 8 3 0) 8 2 w) := by
  obtain ⟨a1, ⟨un, u0, b1, b2, b3, b4, b5, b6, b7⟩, a3, -, a5, -, -⟩ := h
  have ec : t.2.2.1 = T.2.2.1 := (congrArg (fun x : Nat × Int32 × Int32 => x.2.1) e).symm
  have ep : t.2.2.2 = T.2.2.2 := (congrArg (fun x : Nat × Int32 × Int32 => x.2.2) e).symm
  exact ⟨a1, ⟨un, u0, b1, b2, b3, b4, b5, b6, b7⟩, a3, ⟨0, Nat.zero_le _, rfl, rfl, fun j hj => absurd hj (Nat.not_lt_zero j)⟩, a5, ec, ep⟩
theorem us_z (r j : Nat) : us Z0 r j 0 = Z0 := us_self rfl
theorem s_clear_z : s_clear Z0 = Z0 := by
  unfold s_clear
  simp only [us_z]
theorem sk_ch_lt (i j : Nat) : ∃ n, n < 256 ∧ sk_ch i j = nI n := and255 _
theorem sk_ch_b (i j : Nat) : w_b (sk_ch i j) &&& 255 = sk_ch i j := by
  obtain ⟨n, n1, n2⟩ := sk_ch_lt i j
  rw [w_b_and, n2]
  exact (pk_andN (by omega) 8 (by decide)).trans (by rw [Nat.mod_eq_of_lt (by omega)])
theorem b_txt_at : ∀ (k i : Nat) (q : RT × Nat), q.2 = i → ∀ j, (b_txt i k q).1 j = if i ≤ j ∧ j < i + k then w_b (sk_ch 0 j) else q.1 j
  | 0, i, q, _, j => by
    rw [b_txt, if_neg (by omega)]
  | k + 1, i, q, hq, j => by
    rw [b_txt, b_txt_at k (i + 1) (w_put (sk_ch 0 i) q) (by show q.2 + 1 = i + 1; omega) j]
    by_cases c : j = i
    · subst c
      rw [if_neg (by omega), if_pos (by omega)]
      show upd q.1 q.2 (w_b (sk_ch 0 j)) j = _
      rw [hq, pk_us]
    · by_cases c2 : i + 1 ≤ j ∧ j < i + 1 + k
      · rw [if_pos c2, if_pos (by omega)]
      · rw [if_neg c2, if_neg (by omega)]
        show upd q.1 q.2 (w_b (sk_ch 0 i)) j = _
        rw [hq, pk_un c]
theorem f0t_at {j : Nat} (h : j < 182) : f0t j = sk_ch 0 j := by
  rw [f0t, q0t, b_txt_at 182 0 q00 rfl j, if_pos (by omega), sk_ch_b]
theorem m01_at {j : Nat} (h : j < 182) : M01 6 j = sk_ch 10 j := by
  show q_txt (M00 6) j = _
  rw [q_txt, if_pos h]
theorem first_HF : ∀ j, j < 182 → f0t j = M01 6 j := fun j hj => by
  rw [f0t_at hj, m01_at hj, sk_ch, sk_ch, show SKb.getD 0 [] = SKb.getD 10 [] from by decide +kernel]
set_option maxRecDepth 100000 in
theorem first_ok : (p_all (M01 6) 182).2.2.1 = 0 ∧ (p_all (M01 6) 182).2.2.2 = -1 := by decide +kernel
theorem rel_0 : REL 0 z0 m0c := by
  have hQ := QP.al_z first_HF (by decide) Z0
  rw [s_clear_z] at hQ
  obtain ⟨k1, k2⟩ := first_ok
  have hS : SR (dB 0) (c_txt f0t 182 Z0).1 (p_all (M01 6) 182).1 := (hQ.2.2 k1).mono (by unfold dB; omega)
  unfold z0 t0c m0c M02
  generalize c_txt f0t 182 Z0 = t at hS
  generalize p_all (M01 6) 182 = T at hS k1 k2
  clear hQ
  have e0 : ∀ j, j < 242 → ur (us (pX M01 182 T) 8 3 0) 0 (va_cpy (us (pX M01 182 T) 8 3 0 1) (us (pX M01 182 T) 8 3 0 0) 0 0 242) 0 j = T.1 j := fun j hj => by
    show va_cpy (us (pX M01 182 T) 8 3 0 1) (us (pX M01 182 T) 8 3 0 0) 0 0 242 j = _
    rw [va_cpy, if_pos (by omega), show 0 + (j - 0) = j by omega]
    rfl
  exact ⟨hS.congr e0, ⟨0, 0, rfl, by decide, rfl, by decide, rfl, rfl, fun i hi => absurd hi (Nat.not_lt_zero i)⟩, fun w hw => ⟨rfl, fun hz => absurd rfl hz⟩, ⟨0, Nat.zero_le _, rfl, rfl, fun j hj => absurd hj (Nat.not_lt_zero j)⟩, ⟨0, Nat.zero_le _, rfl, rfl, fun j hj => absurd hj (Nat.not_lt_zero j)⟩, k1.symm, k2.symm⟩
theorem REL.ldz {n : Nat} {z : OS} {M : CT} (h : REL n z M) (il : Nat) {T : PS RT} {t : PS CT} (e : T.2 = t.2) (hS : SR (dB (n + 1)) t.1 T.1) : REL (n + 1) (zLd z t) (ur (q_rem (us (pX (us M 8 2 0) il T) 8 3 0) (cl (M 8 0)) (cl (M 8 1))) 0 T.1) := by
  have h0 := h.rd il e 0
  obtain ⟨X, hX⟩ : ∃ X, X = us (pX (us M 8 2 0) il T) 8 3 0 := ⟨_, rfl⟩
  have x0 : X 8 0 = M 8 0 := by rw [hX]; rfl
  have x1 : X 8 1 = M 8 1 := by rw [hX]; rfl
  have x2 : X 8 2 = 0 := by rw [hX]; rfl
  have e8 : us X 8 2 0 = X := us_self x2
  rw [← hX] at h0 ⊢
  rw [e8] at h0
  have h3 := h0.push hS
  unfold hM at h3
  rw [e8, x0, x1] at h3
  exact h3
theorem ld_82 (M : CT) (il un u0 : Nat) (T : PS RT) : ur (q_rem (us (pX (us M 8 2 0) il T) 8 3 0) un u0) 0 T.1 8 2 = 0 := rfl

/-! THE PURE EQUIVALENCE: what some questions need -/
theorem in_m1 {v : Int32} {b : Nat} (hb : b < 2 ^ 30) : (¬ v < 0 ∧ ¬ nI b - 1 < v) ↔ inr v b := by
  unfold inr
  rw [fa_lt, fa_lt, fa_lt, nI_m1_toInt hb, nI_toInt (by omega), show (0 : Int32).toInt = 0 by decide]
  omega
theorem fo_sub (F : Nat → Int32) : ∀ (n i : Nat) (a b : Int32), fo (fun k s => s - F k) i n (a - b) = a - fo (fun k s => s + F k) i n b
  | 0, _, _, _ => rfl
  | n + 1, i, a, b => by
    rw [fo, fo, ← fo_sub F n (i + 1) a (b + F i)]
    refine congrArg (fo (fun k s => s - F k) (i + 1) n) ?_
    simp only [Int32.sub_eq_add_neg, Int32.neg_add]
    ac_rfl
theorem fo_rel {σ τ : Type} (R : σ → τ → Prop) {b : Nat → σ → σ} {c : Nat → τ → τ} : ∀ (n i : Nat) (s : σ) (t : τ), R s t → (∀ j s t, i ≤ j → j < i + n → R s t → R (b j s) (c j t)) → R (fo b i n s) (fo c i n t)
  | 0, _, _, _, h, _ => h
  | n + 1, i, s, t, h, hs => fo_rel R n (i + 1) (b i s) (c i t) (hs i s t (Nat.le_refl _) (by omega) h) (fun j s t a e => hs j s t (by omega) (by omega))
section QSS
variable {S : CT} {g : RT} {bc vc fc mc : Nat}
theorem best_eq (h : XC S g bc vc fc mc) (n i b : Nat) (hb : b < bc) (hi : i + n ≤ bc) : fo (fun i b => if S 13 i ≤ S 13 b then b else i) i n b = fo (fun i b => if g (75 + 5 * i) ≤ g (75 + 5 * b) then b else i) i n b ∧ fo (fun i b => if g (75 + 5 * i) ≤ g (75 + 5 * b) then b else i) i n b < bc := by
  refine fo_rel (fun s t => s = t ∧ t < bc) n i b b ⟨rfl, hb⟩ (fun j s t h1 h2 hR => ?_)
  obtain ⟨rfl, hs⟩ := hR
  rw [h.1.b13 j (by omega), h.1.b13 s hs]
  refine ⟨rfl, ?_⟩
  split
  · exact hs
  · omega
theorem fo_id {σ : Type} {b : Nat → σ → σ} : ∀ (n i : Nat) (s : σ), (∀ j, i ≤ j → j < i + n → b j s = s) → fo b i n s = s
  | 0, _, _, _ => rfl
  | n + 1, i, s, h => by
    rw [fo, h i (Nat.le_refl _) (by omega)]
    exact fo_id n (i + 1) s (fun j a b => h j (by omega) (by omega))
theorem XC.found (h : XC S g bc vc fc mc) {i : Nat} (hi : i < bc) : m_find g (g (72 + 5 * i)) (g (73 + 5 * i)) bc = nI i := by
  have hb := h.b
  rcases m_find_cases g (g (72 + 5 * i)) (g (73 + 5 * i)) bc with hp | ⟨k, hk, hp, e1, e2⟩
  · exact absurd ⟨rfl, rfl⟩ (m_find_none hb hp i hi)
  · rcases (show k < i ∨ k = i ∨ i < k by omega) with q | q | q
    · exact absurd ⟨e1, e2⟩ (h.2.2.2.2.2 k i q hi)
    · rw [hp, q]
    · exact absurd ⟨e1.symm, e2.symm⟩ (h.2.2.2.2.2 i k q hk)
theorem s_errs0 (h : XC S g bc vc fc mc) : s_errors S bc = 0 :=
  fo_id bc 0 0 (fun j _ hj => by
    show (if ¬ s_placeOf S (S 10 j) (S 11 j) bc = nI j then (0 : Int32) + 1 else 0) = 0
    rw [h.place, h.1.b10 j (by omega), h.1.b11 j (by omega), if_neg (fun q => q (h.found (by omega)))])
theorem m_errs0 (h : XC S g bc vc fc mc) {D : Nat} (hd : DY D 6 g bc) (hD : D ≤ 1000000) : m_errs g bc = 0 := by
  have hb := h.b
  have hv := h.v
  have hal : ∀ k, k < bc → m_alike g k bc = 0 := fun k hk =>
    fo_id _ _ _ (fun j hj hj' => by
      show (if m_told g j = m_told g k then (0 : Int32) + 1 else 0) = 0
      rw [if_neg]
      intro q
      obtain ⟨d, d1, d2, d3⟩ := hd
      obtain ⟨ej, -, x1, x2, -⟩ := d3 j (by omega)
      obtain ⟨ek, -, y1, y2, -⟩ := d3 k hk
      obtain ⟨wj, w1, w2⟩ := h.2.1.2.2.2.2.1 j (by omega)
      obtain ⟨wk, w3, w4⟩ := h.2.1.2.2.2.2.1 k hk
      rw [m_told, m_told, x2, y2, w2, w4, show (10 : Int32) = nI 10 from rfl, pk_mul, pk_mul, nI_add, nI_add] at q
      have := congrArg Int32.toInt q
      rw [nI_toInt (by omega), nI_toInt (by omega)] at this
      have e1 : ek = ej := by omega
      have e2 : wk = wj := by omega
      exact h.2.2.2.2.2 k j (by omega) (by omega) ⟨by rw [w2, w4, e2], by rw [x2, y2, e1]⟩)
  refine fo_id bc 0 0 (fun j _ hj => ?_)
  show (if m_find g (g (72 + 5 * j)) (g (73 + 5 * j)) bc = -1 then (0 : Int32) + 1 else 0) + m_alike g j bc = 0
  rw [hal j (by omega), h.found (by omega), if_neg (nI_ne_m1 (by omega))]
  rfl
end QSS
theorem kd2 {e1 e2 : String} (hne : ¬ e2 = e1) (a : Nat) : (if (if a = 0 then e1 else e2) = e1 then (1 : Int32) else 2) = if a = 0 then 1 else 2 := by
  by_cases q : a = 0
  · rw [if_pos q, if_pos rfl, if_pos q]
  · rw [if_neg q, if_neg hne, if_neg q]
theorem k27_le : ∀ (n : Nat) (L : List Nat) (a B : Nat), L.length ≤ n → (∀ c, c ∈ L → 1 ≤ c ∧ c ≤ 26) → a + 1 ≤ B → k27 n L a + 1 ≤ B * 27 ^ n
  | 0, L, a, B, hl, _, h => by
    rw [show L = [] from List.length_eq_zero_iff.mp (by omega)]
    show a + 1 ≤ B * 1
    omega
  | n + 1, [], a, B, _, hc, h => by
    show k27 n [] (a * 27) + 1 ≤ _
    have := k27_le n [] (a * 27) (B * 27) (by simp) hc (by omega)
    rw [Nat.pow_succ, Nat.mul_comm (27 ^ n) 27, ← Nat.mul_assoc]
    exact this
  | n + 1, c :: L, a, B, hl, hc, h => by
    show k27 n L (a * 27 + c) + 1 ≤ _
    have h1 := hc c (List.mem_cons_self)
    have := k27_le n L (a * 27 + c) (B * 27) (by simp at hl; omega) (fun d hd => hc d (List.mem_cons_of_mem _ hd)) (by omega)
    rw [Nat.pow_succ, Nat.mul_comm (27 ^ n) 27, ← Nat.mul_assoc]
    exact this
theorem k27_lt {L : List Nat} (h : L.length ≤ 4) (hc : ∀ c, c ∈ L → 1 ≤ c ∧ c ≤ 26) : k27 4 L 0 < 531441 := by
  have := k27_le 4 L 0 1 h hc (by decide)
  omega
theorem nlt_of {a lo : Int32} (h : ¬ a < lo) (hl : 0 ≤ lo.toInt) : ¬ a < 0 := fun q => h (by
  rw [fa_lt] at q ⊢
  have e0 : (0 : Int32).toInt = 0 := by decide
  omega)

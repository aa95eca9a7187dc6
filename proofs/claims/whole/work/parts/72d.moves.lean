/-! THE PURE EQUIVALENCE: what changes the state; the history -/
theorem m_find_none {g : RT} {v d : Int32} {bc : Nat} (hb : bc ≤ 30) (h : m_find g v d bc = -1) : ∀ j, j < bc → ¬ (g (72 + 5 * j) = v ∧ g (73 + 5 * j) = d) := by
  intro j hj c
  have : ∀ n i, i ≤ j → j < i + n → i + n ≤ bc → ¬ fnd (m_bkp g v d) i n = -1 := by
    intro n
    induction n with
    | zero => intro i a b; omega
    | succ n ih =>
      intro i a b e q
      rw [fnd] at q
      by_cases z : m_bkp g v d i = true
      · rw [if_pos z] at q
        exact nI_ne_m1 (k := i) (by omega) q
      · rw [if_neg z] at q
        have : i ≠ j := fun y => z (by rw [y, m_bkp, c.1, c.2]; simp)
        exact ih (i + 1) (by omega) (by omega) (by omega) q
  exact this bc 0 (by omega) (by omega) (by omega) h
theorem le_day {d : Int32} {n : Nat} (hn : n < 2000000000) : (d < nI n + 1 ↔ d ≤ nI n) ∧ (nI n + 30 < d ↔ ¬ d ≤ nI n + 30) := by
  constructor
  · rw [nI_1, fa_lt, fa_le, nI_toInt (by omega), nI_toInt (by omega)]
    omega
  · exact Int32.not_le.symm
section MOVES
variable {S : CT} {g : RT} {bc vc fc mc : Nat}
theorem XC.why (h : XC S g bc vc fc mc) {D : Nat} (hd : DY D 6 g bc) (hD : D ≤ 1000000) (v d : Int32) : s_refusal S v d bc = m_why g v d bc := by
  obtain ⟨dd, d1, d2, -⟩ := hd
  have hb := h.b
  have h5 : S 16 0 = nI dd := (h.1.c16 0 (by decide)).trans d2
  have hl := le_day (d := d) (n := dd) (by omega)
  rw [s_refusal, m_why, h5, d2, h.place]
  by_cases q1 : d ≤ nI dd
  · rw [if_neg (fun c => c.1 (hl.1.mpr q1)), if_pos q1]
  · rw [if_neg q1]
    by_cases q2 : d ≤ nI dd + 30
    · rw [if_pos ⟨fun c => q1 (hl.1.mp c), fun c => hl.2.mp c q2⟩, if_pos q2]
      by_cases q3 : m_find g v d bc = -1
      · rw [if_pos q3, if_pos q3]
        by_cases q4 : bc = 30
        · rw [if_neg (by omega), if_pos q4]
        · rw [if_pos (by omega), if_neg q4]
      · rw [if_neg q3, if_neg q3]
    · rw [if_neg (fun c => c.2 (hl.2.mpr q2)), if_neg q2]
theorem m_why_0 {v d : Int32} (h : m_why g v d bc = 0) : ¬ d ≤ g 5 ∧ d ≤ g 5 + 30 ∧ m_find g v d bc = -1 ∧ ¬ bc = 30 := by
  unfold m_why at h
  by_cases q1 : d ≤ g 5
  · rw [if_pos q1] at h; exact absurd h (by decide)
  · rw [if_neg q1] at h
    by_cases q2 : d ≤ g 5 + 30
    · rw [if_pos q2] at h
      by_cases q3 : m_find g v d bc = -1
      · rw [if_pos q3] at h
        by_cases q4 : bc = 30
        · rw [if_pos q4] at h; exact absurd h (by decide)
        · exact ⟨q1, q2, q3, q4⟩
      · rw [if_neg q3] at h; exact absurd h (by decide)
    · rw [if_neg q2] at h; exact absurd h (by decide)
theorem m_prints_ne (g : RT) (v d x : Int32) (bc j : Nat) (h : j < 72 + 5 * bc ∨ 77 + 5 * bc ≤ j) (h8 : j ≠ 8) : m_prints g v d x bc j = g j := by
  rw [m_prints, pk_un (by omega), pk_un (by omega), pk_un (by omega), pk_un (by omega), pk_un (by omega), pk_un (by omega)]
theorem m_prints_v (g : RT) (v d x : Int32) (bc : Nat) : m_prints g v d x bc (72 + 5 * bc) = v ∧ m_prints g v d x bc (73 + 5 * bc) = d ∧ m_prints g v d x bc (74 + 5 * bc) = x ∧ m_prints g v d x bc (75 + 5 * bc) = 0 ∧ m_prints g v d x bc (76 + 5 * bc) = 0 := by
  refine ⟨?_, ?_, ?_, ?_, ?_⟩
  · rw [m_prints, pk_un (by omega), pk_un (by omega), pk_un (by omega), pk_un (by omega), pk_un (by omega), pk_us]
  · rw [m_prints, pk_un (by omega), pk_un (by omega), pk_un (by omega), pk_un (by omega), pk_us]
  · rw [m_prints, pk_un (by omega), pk_un (by omega), pk_un (by omega), pk_us]
  · rw [m_prints, pk_un (by omega), pk_un (by omega), pk_us]
  · rw [m_prints, pk_un (by omega), pk_us]
theorem XC.prints (h : XC S g bc vc fc mc) {w D : Nat} {d : Int32} (x : Int32) (hw : w < vc) (h0 : m_why g (nI w) d bc = 0) (hd : DY D 6 g bc) (hD : D ≤ 1000000) : XC (s_bookAdd S (nI w) d x bc) (m_prints g (nI w) d x bc) (bc + 1) vc fc mc ∧ DY D 6 (m_prints g (nI w) d x bc) (bc + 1) := by
  obtain ⟨q1, q2, q3, q4⟩ := m_why_0 h0
  have hb := h.b
  have hv := h.v
  have hf := h.f
  have hb' : bc < 30 := by omega
  obtain ⟨p1, p2, p3, p4, p5⟩ := m_prints_v g (nI w) d x bc
  have hs : SP (s_bookAdd S (nI w) d x bc) (m_prints g (nI w) d x bc) bc vc fc mc :=
    (((((h.1.upd h.b h.v h.f (by unfold okc; omega) (by decide) (by decide) (fw_10 bc) _).upd h.b h.v h.f (by unfold okc; omega) (by decide) (by decide) (fw_11 bc) _).upd h.b h.v h.f (by unfold okc; omega) (by decide) (by decide) (fw_12 bc) _).upd h.b h.v h.f (by unfold okc; omega) (by decide) (by decide) (fw_13 bc) _).upd h.b h.v h.f (by unfold okc; omega) (by decide) (by decide) (fw_14 bc) _).upd h.b h.v h.f (Or.inl ⟨rfl, by decide⟩) (by decide) (by decide) rfl _
  refine ⟨⟨⟨fun r j ho r0 r3 => ?_, hs.2.1, hs.2.2.1, hs.2.2.2⟩, h.2.1.prints hb' hw d x, fun i hi => ?_, fun f hf => ?_, fun k hk => ?_, fun j k hj hk => ?_⟩, ?_⟩
  · by_cases e : 10 ≤ r ∧ r < 15 ∧ j = bc
    · obtain ⟨e1, e2, rfl⟩ := e
      rw [s_bookAdd, us_row (by omega)]
      rcases (show r = 10 ∨ r = 11 ∨ r = 12 ∨ r = 13 ∨ r = 14 by omega) with rfl | rfl | rfl | rfl | rfl
      · rw [us_row (by decide), us_row (by decide), us_row (by decide), us_row (by decide), us_at, fw_10, p1]
      · rw [us_row (by decide), us_row (by decide), us_row (by decide), us_at, fw_11, p2]
      · rw [us_row (by decide), us_row (by decide), us_at, fw_12, p3]
      · rw [us_row (by decide), us_at, fw_13, p4]
      · rw [us_at, fw_14, p5]
    · exact hs.1 r j (by unfold okc at ho ⊢; omega) r0 r3
  · rw [m_prints_ne _ _ _ _ _ _ (by omega) (by omega), m_prints_ne _ _ _ _ _ _ (by omega) (by omega)]; exact h.2.2.1 i hi
  · rw [m_prints_ne _ _ _ _ _ _ (by omega) (by omega), m_prints_ne _ _ _ _ _ _ (by omega) (by omega)]; exact h.2.2.2.1 f hf
  · by_cases e : k = bc
    · subst e
      exact ⟨0, 0, by omega, by omega, p4, p5⟩
    · rw [m_prints_ne _ _ _ _ _ _ (by omega) (by omega), m_prints_ne _ _ _ _ _ _ (by omega) (by omega)]; exact h.2.2.2.2.1 k (by omega)
  · rw [m_prints_ne g _ _ _ _ (72 + 5 * j) (by omega) (by omega), m_prints_ne g _ _ _ _ (73 + 5 * j) (by omega) (by omega)]
    by_cases e : k = bc
    · subst e
      rw [p1, p2]
      exact m_find_none h.b q3 j hj
    · rw [m_prints_ne g _ _ _ _ (72 + 5 * k) (by omega) (by omega), m_prints_ne g _ _ _ _ (73 + 5 * k) (by omega) (by omega)]
      exact h.2.2.2.2.2 j k hj (by omega)
  · obtain ⟨dd, d1, d2, d3⟩ := hd
    refine ⟨dd, d1, by rw [m_prints_ne _ _ _ _ _ _ (by omega) (by omega)]; exact d2, fun k hk => ?_⟩
    by_cases e : k = bc
    · subst e
      rw [p1, p2]
      rw [d2] at q1 q2
      have hd0 : ¬ d < 0 := fun c => q1 (by
        rw [fa_le, nI_toInt (by omega)]
        rw [fa_lt] at c
        have : (0 : Int32).toInt = 0 := by decide
        omega)
      obtain ⟨e, e1, rfl⟩ := nI_of hd0
      have a1 : ¬ e ≤ dd := fun c => q1 ((nI_leI e1 (by omega)).mpr c)
      have a2 : e ≤ dd + 30 := (nI_leI e1 (by omega)).mp (by rw [← nI_add]; exact q2)
      exact ⟨e, by omega, a2, rfl, fun c => by omega⟩
    · rw [m_prints_ne _ _ _ _ _ _ (by omega) (by omega), m_prints_ne _ _ _ _ _ _ (by omega) (by omega)]
      exact d3 k (by omega)
-- the setters
theorem XC.people (h : XC S g bc vc fc mc) {v p : Nat} (hv' : v < vc) (hp : p ≤ 99) : XC (us S 1 v (nI p)) (upd g (25 + 3 * v) (nI p)) bc vc fc mc := by
  have hb := h.b
  have hv := h.v
  have hf := h.f
  refine ⟨h.1.upd h.b h.v h.f (by unfold okc; omega) (by decide) (by decide) (fw_1 v) _, h.2.1.upd _ _ (by omega), fun i hi => ⟨?_, ?_⟩, fun f hf => ?_, fun k hk => ?_, fun j k hj hk => ?_⟩
  · by_cases e : i = v
    · subst e; exact ⟨p, hp, pk_us⟩
    · rw [pk_un (by omega)]; exact (h.2.2.1 i hi).1
  · rw [pk_un (by omega)]; exact (h.2.2.1 i hi).2
  · rw [pk_un (by omega), pk_un (by omega)]; exact h.2.2.2.1 f hf
  · rw [pk_un (by omega), pk_un (by omega)]; exact h.2.2.2.2.1 k hk
  · rw [pk_un (by omega), pk_un (by omega), pk_un (by omega), pk_un (by omega)]; exact h.2.2.2.2.2 j k hj hk
theorem XC.odds1 (h : XC S g bc vc fc mc) {w o : Nat} (hw : w < 3) (ho : o ≤ 20) (hs : ¬ m_allOdds g - g (1 + w) + nI o = 0) : XC (us S 8 w (nI o)) (upd g (1 + w) (nI o)) bc vc fc mc := by
  have hb := h.b
  have hv := h.v
  have hf := h.f
  refine ⟨h.1.upd h.b h.v h.f (Or.inr (Or.inl ⟨Or.inl rfl, hw⟩)) (by decide) (by decide) rfl _, ?_, h.2.2.lo (by omega) h.b h.v h.f _⟩
  obtain ⟨⟨h1, h2⟩, ⟨h3, h4⟩, ⟨h5, h6⟩, ⟨h7, h8⟩, h9, h10, ⟨a, b, c, o1, o2, o3, o4, o5, o6, o7⟩, ⟨s, s1, s2⟩⟩ := h.2.1
  refine ⟨⟨by rw [pk_un (by omega)]; exact h1, h2⟩, ⟨by rw [pk_un (by omega)]; exact h3, h4⟩, ⟨by rw [pk_un (by omega)]; exact h5, h6⟩, ⟨by rw [pk_un (by omega)]; exact h7, h8⟩, fun k hk => by rw [pk_un (by omega)]; exact h9 k hk, fun f hf => by rw [pk_un (by omega)]; exact h10 f hf, ?_, ⟨s, s1, by rw [pk_un (by omega)]; exact s2⟩⟩
  rw [m_allOdds, o5, o6, o7, nI_add, nI_add] at hs
  rcases (show w = 0 ∨ w = 1 ∨ w = 2 by omega) with rfl | rfl | rfl
  · rw [show g (1 + 0) = nI a from o5, pk_sub (by omega), nI_add] at hs
    refine ⟨o, b, c, ho, o2, o3, ?_, pk_us, by rw [pk_un (by omega)]; exact o6, by rw [pk_un (by omega)]; exact o7⟩
    exact Nat.pos_of_ne_zero (fun e => hs (by rw [show a + b + c - a + o = 0 by omega]; rfl))
  · rw [show g (1 + 1) = nI b from o6, pk_sub (by omega), nI_add] at hs
    refine ⟨a, o, c, o1, ho, o3, ?_, by rw [pk_un (by omega)]; exact o5, pk_us, by rw [pk_un (by omega)]; exact o7⟩
    exact Nat.pos_of_ne_zero (fun e => hs (by rw [show a + b + c - b + o = 0 by omega]; rfl))
  · rw [show g (1 + 2) = nI c from o7, pk_sub (by omega), nI_add] at hs
    refine ⟨a, b, o, o1, o2, ho, ?_, by rw [pk_un (by omega)]; exact o5, by rw [pk_un (by omega)]; exact o6, pk_us⟩
    exact Nat.pos_of_ne_zero (fun e => hs (by rw [show a + b + c - c + o = 0 by omega]; rfl))
-- a row is its first 242 cells
theorem XC.congr (h : XC S g bc vc fc mc) {g' : RT} (e : ∀ j, j < 242 → g' j = g j) : XC S g' bc vc fc mc := by
  have hb := h.b
  have hv := h.v
  have hf := h.f
  have hm := h.m
  refine ⟨⟨fun r j ho r0 r3 => ?_, fun i hi => ?_, fun f hf => ?_, fun k hk => ?_⟩, h.2.1.of_eq (fun j hj => e j (by omega)) (e 6 (by decide)) (e 7 (by decide)) (e 8 (by decide)) (e 9 (by decide)) (fun f hf => e _ (by omega)) (fun k hk => e _ (by omega)), fun i hi => ?_, fun f hf => ?_, fun k hk => ?_, fun j k hj hk => ?_⟩
  · have := fw_lt (r := r) (j := j) (by unfold okc at ho ⊢; omega)
    rw [e _ (by omega)]; exact h.1.1 r j ho r0 r3
  · rw [e _ (by omega)]; exact h.1.2.1 i hi
  · rw [e _ (by omega)]; exact h.1.2.2.1 f hf
  · rw [e _ (by omega), e _ (by omega)]; exact h.1.2.2.2 k hk
  · rw [e _ (by omega), e _ (by omega)]; exact h.2.2.1 i hi
  · rw [e _ (by omega), e _ (by omega)]; exact h.2.2.2.1 f hf
  · rw [e _ (by omega), e _ (by omega)]; exact h.2.2.2.2.1 k hk
  · rw [e _ (by omega), e _ (by omega), e _ (by omega), e _ (by omega)]; exact h.2.2.2.2.2 j k hj hk
theorem DY.congr {D v : Nat} (h : DY D v g bc) (hb : bc ≤ 30) {g' : RT} (e : ∀ j, j < 242 → g' j = g j) : DY D v g' bc := by
  obtain ⟨d, d1, d2, d3⟩ := h
  refine ⟨d, d1, by rw [e 5 (by decide)]; exact d2, fun k hk => ?_⟩
  rw [e _ (by omega), e _ (by omega)]
  exact d3 k hk
theorem SR.congr {D : Nat} (h : SR D S g) {g' : RT} (e : ∀ j, j < 242 → g' j = g j) : SR D S g' := by
  obtain ⟨h1, h2⟩ := h.xc
  exact (h1.congr e).sr (h2.congr h1.b e)
end MOVES

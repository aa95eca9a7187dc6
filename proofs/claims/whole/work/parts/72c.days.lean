/-! THE PURE EQUIVALENCE: villages, year, days -/
section WEIGH
variable {S : CT} {g : RT} {bc vc fc mc : Nat}
theorem XC.hit (h : XC S g bc vc fc mc) : XC (us S 16 2 (S 16 2 + 1)) (upd g 10 (g 10 + 1)) bc vc fc mc := by
  rw [h.1.c16 2 (by decide)]
  exact h.cnt 2 (by decide) (by decide) _
theorem s_judgeMid_k (S : CT) (vg w k vc mc : Nat) : s_judgeMid S vg w k vc mc = if S 12 k = nI w then s_chg (us S 16 2 (S 16 2 + 1)) (nI vg) 5 vc else s_chg (s_payBack (s_memAdd (us S 16 3 (S 16 3 + 1)) (nI vg) (S 16 0) mc) (if w = 2 then S 14 k + 10 else S 14 k / 2)) (nI vg) (if w = 2 then -20 else -10) vc := rfl
/-- the verdict: the same; what it keeps of the row -/
theorem XC.mid (h : XC S g bc vc fc mc) {v w k : Nat} (hv : v < vc) (hk : k < bc) : ∃ mc', XC (s_judgeMid S v w k vc mc) (m_weighMid g v w k mc) bc vc fc mc' ∧ ∀ j, (j = 5 ∨ 72 ≤ j) → j < 222 → m_weighMid g v w k mc j = g j := by
  have hv6 := h.v
  rw [s_judgeMid_k, m_weighMid, h.1.b12 k hk, h.1.b14 k hk]
  by_cases q : g (74 + 5 * k) = nI w
  · rw [if_pos q, if_pos q]
    exact ⟨mc, h.hit.trust hv 5, fun j hj hl => by rw [m_addTrust, pk_un (by omega), pk_un (by omega)]⟩
  · rw [if_neg q, if_neg q]
    exact ⟨_, ((h.regret (nI v)).pay _).trust hv _, fun j hj hl => by rw [m_addTrust, pk_un (by omega), m_payBack, pk_un (by omega), pk_un (by omega), m_regret_lo _ _ _ _ hl (by omega) (by omega)]⟩
theorem XC.weigh (h : XC S g bc vc fc mc) {v w D : Nat} (hv : v < vc) (hd : DY D v g bc) : ∃ bc' mc', XC (s_judge S v w bc vc mc) (m_weigh g v w bc mc) bc' vc fc mc' ∧ DY D (v + 1) (m_weigh g v w bc mc) bc' := by
  have hb := h.b
  have hv6 := h.v
  have h5 : S 16 0 = g 5 := h.1.c16 0 (by decide)
  rw [s_judge, m_weigh, h5, h.place]
  rcases m_find_cases g (nI v) (g 5) bc with hp | ⟨k, hk, hp, e1, e2⟩
  · rw [if_pos hp, if_pos hp]
    refine ⟨bc, mc, h, ?_⟩
    obtain ⟨d, d1, d2, d3⟩ := hd
    refine ⟨d, d1, d2, fun k hk => ?_⟩
    obtain ⟨e, x1, x2, x3, x4⟩ := d3 k hk
    refine ⟨e, x1, x2, x3, fun q => ?_⟩
    obtain ⟨w', w1, w2, w3⟩ := x4 q
    refine ⟨w', ?_, w2, w3⟩
    rcases Nat.lt_or_ge v w' with y | y
    · exact y
    · have e : w' = v := by omega
      exfalso
      have hno : ∀ j, j < bc → m_bkp g (nI v) (g 5) j = false := by
        intro j hj
        cases c : m_bkp g (nI v) (g 5) j with
        | false => rfl
        | true =>
          exfalso
          have : ∀ n i, i ≤ j → j < i + n → ¬ fnd (m_bkp g (nI v) (g 5)) i n = -1 := by
            intro n
            induction n with
            | zero => intro i a b; omega
            | succ n ih =>
              intro i a b q
              rw [fnd] at q
              by_cases z : m_bkp g (nI v) (g 5) i = true
              · rw [if_pos z] at q
                exact nI_ne_m1 (k := i) (by omega) q
              · rw [if_neg z] at q
                have : i ≠ j := fun y => z (by rw [y]; exact c)
                exact ih (i + 1) (by omega) (by omega) q
          exact this bc 0 (by omega) (by omega) hp
      have := hno k hk
      rw [m_bkp, w3, x3, e, q, d2] at this
      simp at this
  · have hn : ¬ m_find g (nI v) (g 5) bc = -1 := by rw [hp]; exact nI_ne_m1 (by omega)
    rw [if_neg hn, if_neg hn, hp, nI_clamp (by omega)]
    obtain ⟨mc', hm, keep⟩ := h.mid (w := w) hv hk
    refine ⟨bc - 1, mc', hm.drop hk, ?_⟩
    obtain ⟨d, d1, d2, d3⟩ := hd
    have a5 : m_drop (m_weighMid g v w k mc) k bc 5 = nI d := by rw [m_drop_lo _ _ _ _ (by omega) (by omega) (by omega), keep 5 (by omega) (by omega), d2]
    have e0 : ∀ j, j < bc - 1 → m_drop (m_weighMid g v w k mc) k bc (72 + 5 * j) = g (72 + 5 * (if j < k then j else j + 1)) := fun j hj => by
      have := m_drop_bk (m_weighMid g v w k mc) k bc j 0 hk (by decide) hj
      simp only [Nat.add_zero] at this
      rw [this, keep _ (by omega) (by split <;> omega)]
    have e1' : ∀ j, j < bc - 1 → m_drop (m_weighMid g v w k mc) k bc (73 + 5 * j) = g (73 + 5 * (if j < k then j else j + 1)) := fun j hj => by
      have := m_drop_bk (m_weighMid g v w k mc) k bc j 1 hk (by decide) hj
      rw [show 72 + 5 * j + 1 = 73 + 5 * j by omega, show ∀ x, 72 + 5 * x + 1 = 73 + 5 * x from fun x => by omega] at this
      rw [this, keep _ (by omega) (by split <;> omega)]
    refine ⟨d, d1, a5, fun j hj => ?_⟩
    rw [e0 j hj, e1' j hj]
    have hjj : (if j < k then j else j + 1) < bc ∧ (if j < k then j else j + 1) ≠ k := by split <;> omega
    generalize (if j < k then j else j + 1) = i at hjj
    obtain ⟨e, x1, x2, x3, x4⟩ := d3 i hjj.1
    refine ⟨e, x1, x2, x3, fun q => ?_⟩
    obtain ⟨w', w1, w2, w3⟩ := x4 q
    refine ⟨w', ?_, w2, w3⟩
    rcases Nat.lt_or_ge v w' with y | y
    · exact y
    · exfalso
      have ew : w' = v := by omega
      rw [ew] at w3
      rw [q] at x3
      rw [d2] at e2
      rcases Nat.lt_or_ge i k with z | z
      · exact h.2.2.2.2.2 i k z hk ⟨w3.trans e1.symm, x3.trans e2.symm⟩
      · exact h.2.2.2.2.2 k i (by omega) hjj.1 ⟨e1.trans w3.symm, e2.trans x3.symm⟩
theorem XC.vilB (h : XC S g bc vc fc mc) {v D : Nat} (hv : v < vc) (hd : DY D v g bc) : ∃ bc' mc', XC (s_vilB v S) (m_vilB v g) bc' vc fc mc' ∧ DY D (v + 1) (m_vilB v g) bc' := by
  rw [s_vilB, m_vilB, h.cS.1, h.cS.2.1, h.cS.2.2.2, h.cG.1, h.cG.2.2.2, h.drawW]
  exact h.draw.weigh hv (hd.drawn h.b)
end WEIGH
theorem XC.vilL {vc fc D : Nat} : ∀ (n v : Nat) (S : CT) (g : RT) (bc mc : Nat), XC S g bc vc fc mc → v + n ≤ vc → DY D v g bc → ∃ bc' mc', XC (fo s_vilB v n S) (fo m_vilB v n g) bc' vc fc mc' ∧ DY D (v + n) (fo m_vilB v n g) bc'
  | 0, _, _, _, bc, mc, h, _, hd => ⟨bc, mc, h, hd⟩
  | n + 1, v, S, g, bc, mc, h, hv, hd => by
    obtain ⟨b1, m1, h1, d1⟩ := h.vilB (show v < vc by omega) hd
    obtain ⟨b2, m2, h2, d2⟩ := XC.vilL n (v + 1) _ _ b1 m1 h1 (by omega) d1
    exact ⟨b2, m2, h2, by rw [show v + (n + 1) = v + 1 + n by omega]; exact d2⟩
theorem DY.up {D v u bc vc fc mc : Nat} {g : RT} (h : DY D v g bc) (hm : mI g bc vc fc mc) (hv : vc ≤ v) : DY D u g bc := by
  obtain ⟨d, d1, d2, d3⟩ := h
  have hb := hm.1.2
  have hv6 := hm.2.1.2
  refine ⟨d, d1, d2, fun k hk => ?_⟩
  obtain ⟨e, x1, x2, x3, x4⟩ := d3 k hk
  refine ⟨e, x1, x2, x3, fun q => ?_⟩
  obtain ⟨w', w1, w2, w3⟩ := x4 q
  obtain ⟨w, y1, y2⟩ := hm.2.2.2.2.1 k hk
  rw [w3] at y2
  have := congrArg Int32.toInt y2
  rw [nI_toInt (by omega), nI_toInt (by omega)] at this
  omega
theorem s_fg_congr {f f' : RT} (h : ∀ i, i < 3 → f i = f' i) : s_fg f = s_fg f' := by
  have h0 := h 0 (by decide)
  have h1 := h 1 (by decide)
  have h2 := h 2 (by decide)
  simp only [s_fg, fo, h0, h1, h2]
  by_cases c : f' 1 ≤ f' 0
  · simp only [if_pos c, h0]
  · simp only [if_neg c, h1]
theorem s_ll_congr {f f' : RT} (h : ∀ i, i < 3 → f i = f' i) : s_ll f = s_ll f' := by
  have h0 := h 0 (by decide)
  have h1 := h 1 (by decide)
  have h2 := h 2 (by decide)
  simp only [s_ll, fo, h0, h1, h2]
  by_cases c : f' 0 < f' 1
  · simp only [if_pos c, h0, h1] <;> rfl
  · simp only [if_neg c, h0, h1] <;> rfl
section YEAR
variable {S : CT} {g : RT} {bc vc fc mc : Nat}
theorem m_oddsUp_ne (g : RT) (j : Nat) (h : j < 1 ∨ 4 ≤ j) : m_oddsUp g j = g j := by
  have := m_fg_lt g
  unfold m_oddsUp
  split
  · rfl
  · rw [pk_un (by omega)]
theorem m_oddsDn_ne (g : RT) (l j : Nat) (hl : l < 3) (h : j < 1 ∨ 4 ≤ j) : m_oddsDn g l j = g j := by
  unfold m_oddsDn
  split
  · rfl
  · rw [pk_un (by omega)]
theorem m_endYear_ne (g : RT) (j : Nat) (h : (j < 1 ∨ 4 ≤ j) ∧ (j < 17 ∨ 20 ≤ j)) : m_endYear g j = g j := by
  rw [m_endYear, pk_un (by omega), pk_un (by omega), pk_un (by omega), m_oddsDn_ne _ _ _ (m_ll_lt g) h.1, m_oddsUp_ne _ _ h.1]
theorem XC.endYear (h : XC S g bc vc fc mc) : XC (s_closeYear S) (m_endYear g) bc vc fc mc := by
  have e1 : s_fg (S 9) = m_fg g := s_fg_congr (f' := fun i => g (17 + i)) (fun i hi => h.1.drw i hi)
  have e2 : s_ll (S 9) = m_ll g := s_ll_congr (f' := fun i => g (17 + i)) (fun i hi => h.1.drw i hi)
  have l1 := m_fg_lt g
  have l2 := m_ll_lt g
  have hu : SP (s_oddsUp S) (m_oddsUp g) bc vc fc mc ∧ s_oddsUp S 9 = S 9 := by
    unfold s_oddsUp m_oddsUp
    rw [e1, h.1.odds _ l1]
    by_cases q : 20 ≤ g (1 + m_fg g)
    · rw [if_pos q, if_pos q]; exact ⟨h.1, rfl⟩
    · rw [if_neg q, if_neg q]
      exact ⟨h.1.upd h.b h.v h.f (Or.inr (Or.inl ⟨Or.inl rfl, l1⟩)) (by decide) (by decide) rfl _, us_row (by decide)⟩
  have hd : SP (s_oddsDn (s_oddsUp S) (m_ll g)) (m_oddsDn (m_oddsUp g) (m_ll g)) bc vc fc mc := by
    unfold s_oddsDn m_oddsDn
    rw [hu.1.odds _ l2]
    by_cases q : m_oddsUp g (1 + m_ll g) ≤ 0
    · rw [if_pos q, if_pos q]; exact hu.1
    · rw [if_neg q, if_neg q]
      exact hu.1.upd h.b h.v h.f (Or.inr (Or.inl ⟨Or.inl rfl, l2⟩)) (by decide) (by decide) rfl _
  refine ⟨?_, h.2.1.endYear, ?_⟩
  · rw [s_closeYear, m_endYear, hu.2, e2]
    exact ((hd.upd h.b h.v h.f (Or.inr (Or.inl ⟨Or.inr rfl, by decide⟩)) (by decide) (by decide) rfl _).upd h.b h.v h.f (Or.inr (Or.inl ⟨Or.inr rfl, by decide⟩)) (by decide) (by decide) rfl _).upd h.b h.v h.f (Or.inr (Or.inl ⟨Or.inr rfl, by decide⟩)) (by decide) (by decide) rfl _
  · have hb := h.b
    have hv := h.v
    have hf := h.f
    refine ⟨fun i hi => ?_, fun f hf => ?_, fun k hk => ?_, fun j k hj hk => ?_⟩
    · rw [m_endYear_ne _ _ (by omega), m_endYear_ne _ _ (by omega)]; exact h.2.2.1 i hi
    · rw [m_endYear_ne _ _ (by omega), m_endYear_ne _ _ (by omega)]; exact h.2.2.2.1 f hf
    · rw [m_endYear_ne _ _ (by omega), m_endYear_ne _ _ (by omega)]; exact h.2.2.2.2.1 k hk
    · rw [m_endYear_ne _ _ (by omega), m_endYear_ne _ _ (by omega), m_endYear_ne _ _ (by omega), m_endYear_ne _ _ (by omega)]; exact h.2.2.2.2.2 j k hj hk
theorem DY.endYear {D v : Nat} (h : DY D v g bc) : DY D v (m_endYear g) bc := by
  obtain ⟨d, d1, d2, d3⟩ := h
  refine ⟨d, d1, by rw [m_endYear_ne _ _ (by omega)]; exact d2, fun k hk => ?_⟩
  rw [m_endYear_ne _ _ (by omega), m_endYear_ne _ _ (by omega)]
  exact d3 k hk
/-- the day begins -/
theorem XC.dawn (h : XC S g bc vc fc mc) : XC (us S 16 0 (S 16 0 + 1)) (upd g 5 (g 5 + 1)) bc vc fc mc := by
  rw [h.1.c16 0 (by decide)]
  exact h.cnt 0 (by decide) (by decide) _
theorem DY.dawn {D : Nat} (h : DY D 6 g bc) (hm : mI g bc vc fc mc) : DY (D + 1) 0 (upd g 5 (g 5 + 1)) bc := by
  obtain ⟨d, d1, d2, d3⟩ := h
  have hb := hm.1.2
  have hv6 := hm.2.1.2
  refine ⟨d + 1, by omega, by rw [pk_us, d2, nI_1], fun k hk => ?_⟩
  obtain ⟨e, x1, x2, x3, x4⟩ := d3 k hk
  rw [pk_un (by omega), pk_un (by omega)]
  have : d < e := by
    rcases Nat.lt_or_ge d e with q | q
    · exact q
    · obtain ⟨w, w1, w2, -⟩ := x4 (by omega)
      omega
  obtain ⟨w, y1, y2⟩ := hm.2.2.2.2.1 k hk
  exact ⟨e, by omega, by omega, x3, fun _ => ⟨w, by omega, by omega, y2⟩⟩
theorem XC.day (h : XC S g bc vc fc mc) {D : Nat} (hd : DY D 6 g bc) : ∃ bc' mc', XC (s_day S) (m_day g) bc' vc fc mc' ∧ DY (D + 1) 6 (m_day g) bc' := by
  have d0 := hd.dawn h.2.1
  obtain ⟨h1, k1⟩ := h.dawn.dayF
  obtain ⟨b2, m2, h2, d2⟩ := XC.vilL vc 0 _ _ _ _ h1 (by omega) (k1 _ _ d0)
  have d2 := d2.up (u := 6) h2.2.1 (by omega)
  have e1 : s_dayV (s_dayF (us S 16 0 (S 16 0 + 1))) = fo s_vilB 0 vc (s_dayF (us S 16 0 (S 16 0 + 1))) := by rw [s_dayV, h1.cS.2.1]
  have e2 : m_dayV (m_dayF (upd g 5 (g 5 + 1))) = fo m_vilB 0 vc (m_dayF (upd g 5 (g 5 + 1))) := by rw [m_dayV, h1.cG.2.1]
  rw [s_day, m_day, e1, e2, s_dayY, m_dayY, h2.1.c16 0 (by decide), show sx 0 = 5 from rfl]
  by_cases q : imod (fo m_vilB 0 vc (m_dayF (upd g 5 (g 5 + 1))) 5) 12 = 0
  · rw [if_pos q, if_pos q]
    exact ⟨b2, m2, h2.endYear, d2.endYear⟩
  · rw [if_neg q, if_neg q]
    exact ⟨b2, m2, h2, d2⟩
end YEAR
theorem XC.daysL {vc fc : Nat} : ∀ (n i D : Nat) (S : CT) (g : RT) (bc mc : Nat), XC S g bc vc fc mc → DY D 6 g bc → ∃ bc' mc', XC (fo s_dayB i n S) (fo m_dayB i n g) bc' vc fc mc' ∧ DY (D + n) 6 (fo m_dayB i n g) bc'
  | 0, _, _, _, _, bc, mc, h, hd => ⟨bc, mc, h, hd⟩
  | n + 1, i, D, S, g, bc, mc, h, hd => by
    obtain ⟨b1, m1, h1, d1⟩ := h.day hd
    obtain ⟨b2, m2, h2, d2⟩ := XC.daysL n (i + 1) (D + 1) _ _ b1 m1 h1 d1
    exact ⟨b2, m2, h2, by rw [show D + (n + 1) = D + 1 + n by omega]; exact d2⟩
theorem XC.days {S : CT} {g : RT} {bc vc fc mc : Nat} (h : XC S g bc vc fc mc) {D : Nat} (hd : DY D 6 g bc) (n : Nat) : ∃ bc' mc', XC (s_days n S) (m_days n g) bc' vc fc mc' ∧ DY (D + n) 6 (m_days n g) bc' := XC.daysL n 0 D S g bc mc h hd
theorem SR.days {D : Nat} {S : CT} {g : RT} (h : SR D S g) (n : Nat) : SR (D + n) (s_days n S) (m_days n g) := by
  obtain ⟨h1, h2⟩ := h.xc
  obtain ⟨b, m, h3, h4⟩ := h1.days h2 n
  exact h3.sr h4

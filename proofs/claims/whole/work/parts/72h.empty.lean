/-! THE PURE EQUIVALENCE: the days until the book is empty -/
/-- the days told: none new; only those of dt may go -/
def KD (g g' : RT) (dt : Int32) : Prop := (∀ k', k' < m_bc g' → ∃ k, k < m_bc g ∧ g' (73 + 5 * k') = g (73 + 5 * k)) ∧ ∀ k, k < m_bc g → ¬ g (73 + 5 * k) = dt → ∃ k', k' < m_bc g' ∧ g' (73 + 5 * k') = g (73 + 5 * k)
theorem KD.same {g g' : RT} {dt : Int32} (h : ∀ k, g' (73 + 5 * k) = g (73 + 5 * k)) (h8 : g' 8 = g 8) : KD g g' dt := by
  have e : m_bc g' = m_bc g := by rw [m_bc, m_bc, h8]
  exact ⟨fun k hk => ⟨k, by omega, h k⟩, fun k hk _ => ⟨k, by omega, h k⟩⟩
theorem KD.trans {g g' g'' : RT} {dt : Int32} (h : KD g g' dt) (h' : KD g' g'' dt) : KD g g'' dt := by
  refine ⟨fun k hk => ?_, fun k hk hn => ?_⟩
  · obtain ⟨k1, a1, a2⟩ := h'.1 k hk
    obtain ⟨k2, b1, b2⟩ := h.1 k1 a1
    exact ⟨k2, b1, a2.trans b2⟩
  · obtain ⟨k1, a1, a2⟩ := h.2 k hk hn
    obtain ⟨k2, b1, b2⟩ := h'.2 k1 a1 (by rw [a2]; exact hn)
    exact ⟨k2, b1, b2.trans a2⟩
section EMPT
variable {S : CT} {g : RT} {bc vc fc mc : Nat}
theorem XC.kdW (h : XC S g bc vc fc mc) {v w : Nat} (hv : v < vc) : KD g (m_weigh g v w bc mc) (g 5) ∧ m_weigh g v w bc mc 5 = g 5 := by
  have hb := h.b
  unfold m_weigh
  rcases m_find_cases g (nI v) (g 5) bc with hp | ⟨k, hk, hp, e1, e2⟩
  · rw [if_pos hp]
    exact ⟨KD.same (fun _ => rfl) rfl, rfl⟩
  · rw [if_neg (by rw [hp]; exact nI_ne_m1 (by omega)), hp, nI_clamp (by omega)]
    obtain ⟨mc', hm, keep⟩ := h.mid (w := w) hv hk
    have e8 : m_bc (m_drop (m_weighMid g v w k mc) k bc) = bc - 1 := m_bc_eq (by rw [m_drop_at, if_neg (by omega), if_pos rfl]) (by omega)
    have e1' : ∀ j, j < bc - 1 → m_drop (m_weighMid g v w k mc) k bc (73 + 5 * j) = g (73 + 5 * (if j < k then j else j + 1)) := fun j hj => by
      have := m_drop_bk (m_weighMid g v w k mc) k bc j 1 hk (by decide) hj
      rw [show 72 + 5 * j + 1 = 73 + 5 * j by omega, show ∀ x, 72 + 5 * x + 1 = 73 + 5 * x from fun x => by omega] at this
      rw [this, keep _ (by omega) (by split <;> omega)]
    refine ⟨⟨fun j hj => ?_, fun j hj hn => ?_⟩, ?_⟩
    · rw [e8] at hj
      exact ⟨_, by rw [h.cG.1]; split <;> omega, e1' j hj⟩
    · rw [h.cG.1] at hj
      have hne : j ≠ k := fun q => hn (by rw [q, e2])
      rcases Nat.lt_or_ge j k with q | q
      · exact ⟨j, by omega, by rw [e1' j (by omega), if_pos q]⟩
      · refine ⟨j - 1, by omega, ?_⟩
        rw [e1' (j - 1) (by omega), if_neg (by omega), show j - 1 + 1 = j by omega]
    · rw [m_drop_lo _ _ _ _ (by omega) (by omega) (by omega), keep 5 (by omega) (by omega)]
theorem XC.kdB (h : XC S g bc vc fc mc) {v : Nat} (hv : v < vc) : KD g (m_vilB v g) (g 5) ∧ m_vilB v g 5 = g 5 := by
  have hw := m_wb_lt g (s_seed (g 0))
  have e : ∀ j, 20 ≤ j ∨ (0 < j ∧ j < 17) → m_drawn g j = g j := fun j hj => by rw [m_drawn, pk_un (by omega), pk_un (by omega)]
  obtain ⟨a1, a2⟩ := h.draw.kdW (w := m_wb g (s_seed (g 0))) hv
  rw [m_vilB, h.cG.1, h.cG.2.2.2]
  rw [e 5 (by omega)] at a1 a2
  exact ⟨(KD.same (fun k => e _ (by omega)) (e 8 (by omega))).trans a1, a2⟩
end EMPT
theorem XC.kdL {vc fc D : Nat} : ∀ (n v : Nat) (S : CT) (g : RT) (bc mc : Nat), XC S g bc vc fc mc → v + n ≤ vc → DY D v g bc → KD g (fo m_vilB v n g) (g 5) ∧ fo m_vilB v n g 5 = g 5
  | 0, _, _, _, _, _, _, _, _ => ⟨KD.same (fun _ => rfl) rfl, rfl⟩
  | n + 1, v, S, g, bc, mc, h, hv, hd => by
    obtain ⟨b1, m1, h1, d1⟩ := h.vilB (show v < vc by omega) hd
    obtain ⟨k1, k2⟩ := h.kdB (show v < vc by omega)
    obtain ⟨l1, l2⟩ := XC.kdL n (v + 1) _ _ b1 m1 h1 (by omega) d1
    rw [k2] at l1 l2
    exact ⟨k1.trans l1, l2⟩
theorem m_holdFair_ne (g : RT) (f bc j : Nat) (hj : j = 5 ∨ j = 8 ∨ ∃ k, j = 73 + 5 * k) : m_holdFair g f bc j = g j :=
  fo_inv (fun p : RT × Int32 => p.1 j = g j) (fun k p hp => by
    unfold m_holdB
    split
    · split
      · exact hp
      · show m_sell p.1 k _ _ j = g j
        rw [m_sell_lo _ _ _ _ _ (by rcases hj with h | h | ⟨k, h⟩ <;> omega) (by rcases hj with h | h | ⟨k, h⟩ <;> omega) (by rcases hj with h | h | ⟨k, h⟩ <;> omega)]
        exact hp
    · exact hp) bc 0 (g, g (45 + 5 * f)) rfl
theorem m_dayF_ne (g : RT) (j : Nat) (hj : j = 5 ∨ j = 8 ∨ ∃ k, j = 73 + 5 * k) : m_dayF g j = g j :=
  fo_inv (fun p : RT => p j = g j) (fun f p hp => by
    unfold m_fairB
    split
    · rw [m_holdFair_ne _ _ _ _ hj]; exact hp
    · exact hp) _ 0 g rfl
section EMPT2
variable {S : CT} {g : RT} {bc vc fc mc : Nat}
theorem XC.kdD (h : XC S g bc vc fc mc) {D : Nat} (hd : DY D 6 g bc) : KD g (m_day g) (g 5 + 1) ∧ m_day g 5 = g 5 + 1 := by
  have d0 := hd.dawn h.2.1
  obtain ⟨h1, k1⟩ := h.dawn.dayF
  have e5 : m_dayF (upd g 5 (g 5 + 1)) 5 = g 5 + 1 := by rw [m_dayF_ne _ _ (Or.inl rfl), pk_us]
  obtain ⟨l1, l2⟩ := XC.kdL vc 0 _ _ _ _ h1 (by omega) (k1 _ _ d0)
  rw [e5] at l1 l2
  have a0 : KD g (m_dayF (upd g 5 (g 5 + 1))) (g 5 + 1) := KD.same (fun k => by rw [m_dayF_ne _ _ (Or.inr (Or.inr ⟨k, rfl⟩)), pk_un (by omega)]) (by rw [m_dayF_ne _ _ (Or.inr (Or.inl rfl)), pk_un (by omega)])
  have a1 := a0.trans l1
  have e2 : m_dayV (m_dayF (upd g 5 (g 5 + 1))) = fo m_vilB 0 vc (m_dayF (upd g 5 (g 5 + 1))) := by rw [m_dayV, h1.cG.2.1]
  rw [m_day, e2, m_dayY]
  split
  · exact ⟨a1.trans (KD.same (fun k => m_endYear_ne _ _ (by omega)) (m_endYear_ne _ _ (by omega))), by rw [m_endYear_ne _ _ (by omega)]; exact l2⟩
  · exact ⟨a1, l2⟩
theorem m_days_snoc (n : Nat) (g : RT) : m_days (n + 1) g = m_day (m_days n g) := fo_snoc _ n 0 g
/-- the latest day -/
theorem latest_eq (h : XC S g bc vc fc mc) {D : Nat} (hd : DY D 6 g bc) (hD : D ≤ 1000000) : ∀ n, n ≤ bc → ∃ e, e ≤ 1000030 ∧ fo (fun i s => if s < S 11 i then S 11 i else s) 0 n (0 : Int32) = nI e ∧ (∀ k, k < n → ∃ x, x ≤ e ∧ g (73 + 5 * k) = nI x) ∧ (0 < n → ∃ k, k < n ∧ g (73 + 5 * k) = nI e)
  | 0, _ => ⟨0, by omega, rfl, fun k hk => by omega, fun hn => by omega⟩
  | n + 1, hn => by
    obtain ⟨e, e1, e2, e3, e4⟩ := latest_eq h hd hD n (by omega)
    obtain ⟨d, d1, -, d3⟩ := hd
    obtain ⟨x, x1, x2, x3, -⟩ := d3 n (by omega)
    rw [fo_snoc, e2, Nat.zero_add, h.1.b11 n (by omega), x3]
    by_cases q : e < x
    · refine ⟨x, by omega, if_pos ((nI_ltI (by omega) (by omega)).mpr q), fun k hk => ?_, fun _ => ⟨n, by omega, x3⟩⟩
      rcases Nat.lt_or_ge k n with y | y
      · obtain ⟨z, z1, z2⟩ := e3 k y
        exact ⟨z, by omega, z2⟩
      · exact ⟨x, Nat.le_refl _, by rw [show k = n by omega]; exact x3⟩
    · refine ⟨e, e1, if_neg (fun c => q ((nI_ltI (by omega) (by omega)).mp c)), fun k hk => ?_, fun _ => ?_⟩
      · rcases Nat.lt_or_ge k n with y | y
        · exact e3 k y
        · exact ⟨x, by omega, by rw [show k = n by omega]; exact x3⟩
      · rcases Nat.eq_zero_or_pos n with y | y
        · subst y
          have : e = 0 := by
            have := congrArg Int32.toInt e2
            rw [nI_toInt (by omega), show (fo (fun i s => if s < S 11 i then S 11 i else s) 0 0 (0 : Int32)).toInt = 0 from rfl] at this
            omega
          exact ⟨0, by omega, by rw [x3, show x = e by omega]⟩
        · obtain ⟨k, k1, k2⟩ := e4 y
          exact ⟨k, by omega, k2⟩
end EMPT2
theorem XC.emptyL {vc fc : Nat} {e d D : Nat} (hD : D ≤ 1000000) (he : e ≤ d + 30) {S : CT} {g : RT} {bc mc : Nat} (h : XC S g bc vc fc mc) (hd : DY D 6 g bc) (h5 : g 5 = nI d) (hdD : d ≤ D) (hle : ∀ k, k < bc → ∃ x, x ≤ e ∧ g (73 + 5 * k) = nI x) (hex : d < e → ∃ k, k < bc ∧ g (73 + 5 * k) = nI e) : ∀ j, d + j ≤ e → ∃ bc' mc', XC (s_days j S) (m_days j g) bc' vc fc mc' ∧ DY (D + j) 6 (m_days j g) bc' ∧ m_days j g 5 = nI (d + j) ∧ (∀ k, k < bc' → ∃ x, x ≤ e ∧ m_days j g (73 + 5 * k) = nI x) ∧ (d + j < e → ∃ k, k < bc' ∧ m_days j g (73 + 5 * k) = nI e) := by
  intro j
  induction j with
  | zero => intro _; exact ⟨bc, mc, h, hd, h5, hle, hex⟩
  | succ j ih =>
    intro hj
    obtain ⟨b1, m1, x1, x2, x3, x4, x5⟩ := ih (by omega)
    obtain ⟨b2, m2, y1, y2⟩ := x1.day x2
    obtain ⟨⟨kA, kB⟩, k5⟩ := x1.kdD x2
    rw [m_days_snoc, show s_days (j + 1) S = s_day (s_days j S) from fo_snoc _ j 0 S]
    rw [y1.cG.1, x1.cG.1] at kA kB
    refine ⟨b2, m2, y1, y2, by rw [k5, x3, nI_1]; rfl, fun k hk => ?_, fun hlt => ?_⟩
    · obtain ⟨k', c1, c2⟩ := kA k hk
      rw [c2]
      exact x4 k' c1
    · obtain ⟨k, c1, c2⟩ := x5 (by omega)
      obtain ⟨k', c3, c4⟩ := kB k c1 (by
        rw [c2, x3, nI_1]
        intro q
        have := congrArg Int32.toInt q
        rw [nI_toInt (by omega), nI_toInt (by omega)] at this
        omega)
      exact ⟨k', c3, c4.trans c2⟩
theorem SR.untilEmpty {D : Nat} {S : CT} {g : RT} (h : SR D S g) (hD : D ≤ 1000000) : ∃ N, N ≤ 1000 ∧ (∀ j, j < N → 0 < m_bc (m_days j g)) ∧ m_bc (m_days N g) = 0 ∧ (if S 16 12 = 0 then 0 else s_latestDay S (bcO S) - S 16 0) = nI N := by
  obtain ⟨hX, hY⟩ := h.xc
  have hb := hX.b
  have hc : S 16 12 = nI (m_bc g) := (hX.1.c16 12 (by decide)).trans hX.2.1.1.1
  have h5 : S 16 0 = g 5 := hX.1.c16 0 (by decide)
  obtain ⟨d, d1, d2, d3⟩ := id hY
  rw [hX.cS.1, hc, h5]
  by_cases q : m_bc g = 0
  · exact ⟨0, by omega, fun j hj => by omega, q, by rw [q]; rfl⟩
  · obtain ⟨e, e1, e2, e3, e4⟩ := latest_eq hX hY hD (m_bc g) (Nat.le_refl _)
    obtain ⟨k0, k1, k2⟩ := e4 (by omega)
    obtain ⟨x, x1, x2, x3, x4⟩ := d3 k0 k1
    have hxe : x = e := by
      have := congrArg Int32.toInt (x3.symm.trans k2)
      rw [nI_toInt (by omega), nI_toInt (by omega)] at this
      omega
    have hlt : d < e := by
      rcases Nat.lt_or_ge d e with y | y
      · exact y
      · obtain ⟨w, w1, w2, -⟩ := x4 (by omega)
        omega
    have loop := XC.emptyL (e := e) (d := d) hD (by omega) hX hY d2 d1 e3 (fun _ => ⟨k0, k1, k2⟩)
    refine ⟨e - d, by omega, fun j hj => ?_, ?_, ?_⟩
    · obtain ⟨b, m, y1, -, -, -, y5⟩ := loop j (by omega)
      obtain ⟨k, z1, -⟩ := y5 (by omega)
      rw [y1.cG.1]
      omega
    · obtain ⟨b, m, y1, y2, y3, y4, -⟩ := loop (e - d) (by omega)
      rw [y1.cG.1]
      rcases Nat.eq_zero_or_pos b with z | z
      · exact z
      · exfalso
        obtain ⟨dd, u1, u2, u3⟩ := y2
        obtain ⟨w, w1, w2, w3, w4⟩ := u3 0 z
        obtain ⟨xx, xx1, xx2⟩ := y4 0 z
        have a1 := congrArg Int32.toInt (u2.symm.trans y3)
        rw [nI_toInt (by omega), nI_toInt (by omega)] at a1
        have a2 := congrArg Int32.toInt (w3.symm.trans xx2)
        rw [nI_toInt (by omega), nI_toInt (by omega)] at a2
        obtain ⟨v, v1, v2, -⟩ := w4 (by omega)
        omega
    · rw [if_neg (by rw [show (0 : Int32) = nI 0 from rfl, nI_eq (by omega) (by omega)]; exact q), s_latestDay, e2, d2, pk_sub (by omega)]

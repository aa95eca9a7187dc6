/-! THE PURE EQUIVALENCE: a day -/
theorem fnd_congr {p q : Nat → Bool} : ∀ (n i : Nat), (∀ j, i ≤ j → j < i + n → p j = q j) → fnd p i n = fnd q i n
  | 0, _, _ => rfl
  | n + 1, i, h => by
    rw [fnd, fnd, h i (Nat.le_refl _) (by omega), fnd_congr n (i + 1) (fun j h1 h2 => h j (by omega) (by omega))]
theorem fo_congr {σ : Type} {b c : Nat → σ → σ} : ∀ (n i : Nat) (s : σ), (∀ j s, i ≤ j → j < i + n → b j s = c j s) → fo b i n s = fo c i n s
  | 0, _, _, _ => rfl
  | n + 1, i, s, h => by
    rw [fo, fo, h i s (Nat.le_refl _) (by omega)]
    exact fo_congr n (i + 1) _ (fun j s h1 h2 => h j s (by omega) (by omega))
section DAY
variable {S : CT} {g : RT} {bc vc fc mc : Nat}
theorem XC.place (h : XC S g bc vc fc mc) (v d : Int32) : s_placeOf S v d bc = m_find g v d bc :=
  fnd_congr bc 0 (fun j _ hj => by rw [bkp, m_bkp, h.1.b10 j (by omega), h.1.b11 j (by omega)])
/-- a counter moves -/
theorem XC.cnt (h : XC S g bc vc fc mc) (j : Nat) (hj : j < 14) (hs : sx j = 4 ∨ sx j = 5 ∨ (10 ≤ sx j ∧ sx j < 17)) (x : Int32) : XC (us S 16 j x) (upd g (sx j) x) bc vc fc mc :=
  ⟨h.1.upd h.b h.v h.f (Or.inl ⟨rfl, hj⟩) (by decide) (by decide) rfl x, h.2.1.upd _ _ (by omega), h.2.2.lo (by omega) h.b h.v h.f x⟩
theorem clampT_rng (x : Int32) : ∃ t, t ≤ 100 ∧ clampT x = nI t := by
  unfold clampT
  split
  · rename_i h0
    split
    · rename_i h1
      obtain ⟨j, hj, e⟩ := nI_of2 (M := 100) (n := 100) rfl (Int32.not_lt.mpr h0) h1
      exact ⟨j, hj, e⟩
    · exact ⟨100, Nat.le_refl _, rfl⟩
  · exact ⟨0, by omega, rfl⟩
theorem PT.trust (h : PT g bc vc fc) (hb : bc ≤ 30) (hv : vc ≤ 6) (hf : fc ≤ 6) {v t : Nat} (hv' : v < vc) (ht : t ≤ 100) : PT (upd g (26 + 3 * v) (nI t)) bc vc fc := by
  refine ⟨fun i hi => ⟨?_, ?_⟩, fun f hf => ?_, fun k hk => ?_, fun j k hj hk => ?_⟩
  · rw [pk_un (by omega)]; exact (h.1 i hi).1
  · by_cases e : i = v
    · subst e; exact ⟨t, ht, pk_us⟩
    · rw [pk_un (by omega)]; exact (h.1 i hi).2
  · rw [pk_un (by omega), pk_un (by omega)]; exact h.2.1 f hf
  · rw [pk_un (by omega), pk_un (by omega)]; exact h.2.2.1 k hk
  · rw [pk_un (by omega), pk_un (by omega), pk_un (by omega), pk_un (by omega)]; exact h.2.2.2 j k hj hk
theorem XC.trustS (h : XC S g bc vc fc mc) {v t : Nat} (hv : v < vc) (ht : t ≤ 100) : XC (us S 2 v (nI t)) (upd g (26 + 3 * v) (nI t)) bc vc fc mc := by
  have hv6 := h.v
  exact ⟨h.1.upd h.b h.v h.f (by unfold okc; omega) (by decide) (by decide) (fw_2 v) _, h.2.1.upd _ _ (by refine Or.inr (Or.inr (Or.inr (Or.inr ⟨v, rfl, by omega⟩)))), h.2.2.trust h.b h.v h.f hv ht⟩
theorem XC.trust (h : XC S g bc vc fc mc) {v : Nat} (hv : v < vc) (ch : Int32) : XC (s_chg S (nI v) ch vc) (m_addTrust g v ch) bc vc fc mc := by
  have hv6 := h.v
  rw [s_chg, if_pos ⟨nI_nneg (by omega), (nI_ltI (by omega) (by omega)).mpr hv⟩, nI_clamp (by omega), m_addTrust, h.1.v2 v hv]
  obtain ⟨t, ht, e⟩ := clampT_rng (g (26 + 3 * v) + ch)
  rw [e]
  exact h.trustS hv ht
theorem XC.pay (h : XC S g bc vc fc mc) (r : Int32) : XC (s_payBack S r) (m_payBack g r) bc vc fc mc := by
  rw [s_payBack, m_payBack, h.1.c16 1 (by decide), h.1.c16 8 (by decide)]
  exact (h.cnt 1 (by decide) (Or.inl rfl) _).cnt 8 (by decide) (by decide) _
-- selling
theorem PT.sell (h : PT g bc vc fc) (hb : bc ≤ 30) (hv : vc ≤ 6) (hf : fc ≤ 6) {k mn pr s p : Nat} (hk : k < bc) (e1 : g (75 + 5 * k) = nI s) (e2 : g (76 + 5 * k) = nI p) (h1 : s + mn ≤ 99) (h2 : p + mn * pr ≤ 20 * (s + mn)) : PT (m_sell g k (nI mn) (nI pr)) bc vc fc := by
  refine ⟨fun i hi => ?_, fun f hf => ?_, fun k' hk' => ?_, fun j k' hj hk' => ?_⟩
  · rw [m_sell_lo _ _ _ _ _ (by omega) (by omega) (by omega), m_sell_lo _ _ _ _ _ (by omega) (by omega) (by omega)]; exact h.1 i hi
  · rw [m_sell_lo _ _ _ _ _ (by omega) (by omega) (by omega), m_sell_lo _ _ _ _ _ (by omega) (by omega) (by omega)]; exact h.2.1 f hf
  · by_cases e : k' = k
    · subst e
      refine ⟨s + mn, p + mn * pr, h1, h2, ?_, ?_⟩
      · rw [m_sell, pk_un (by omega), pk_un (by omega), pk_un (by omega), pk_un (by omega), pk_us, e1, nI_add]
      · rw [m_sell, pk_un (by omega), pk_un (by omega), pk_un (by omega), pk_us, e2, pk_mul, nI_add]
    · rw [m_sell_lo _ _ _ _ _ (by omega) (by omega) (by omega), m_sell_lo _ _ _ _ _ (by omega) (by omega) (by omega)]; exact h.2.2.1 k' hk'
  · rw [m_sell_lo _ _ _ _ _ (by omega) (by omega) (by omega), m_sell_lo _ _ _ _ _ (by omega) (by omega) (by omega), m_sell_lo _ _ _ _ _ (by omega) (by omega) (by omega), m_sell_lo _ _ _ _ _ (by omega) (by omega) (by omega)]; exact h.2.2.2 j k' hj hk'
theorem XC.sell (h : XC S g bc vc fc mc) {k mn pr s p : Nat} (hk : k < bc) (e1 : g (75 + 5 * k) = nI s) (e2 : g (76 + 5 * k) = nI p) (h1 : s + mn ≤ 99) (h2 : p + mn * pr ≤ 20 * (s + mn)) : XC (s_sellT S k (nI mn) (nI mn * nI pr)) (m_sell g k (nI mn) (nI pr)) bc vc fc mc := by
  have hb := h.b
  refine ⟨?_, h.2.1.sell k _ _, h.2.2.sell h.b h.v h.f hk e1 e2 h1 h2⟩
  rw [s_sellT, m_sell, h.1.b13 k hk, h.1.b14 k hk, h.1.c16 5 (by decide), h.1.c16 7 (by decide), h.1.c16 1 (by decide)]
  exact ((((h.1.upd h.b h.v h.f (by unfold okc; omega) (by decide) (by decide) (fw_13 k) _).upd h.b h.v h.f (by unfold okc; omega) (by decide) (by decide) (fw_14 k) _).upd h.b h.v h.f (by unfold okc; omega) (by decide) (by decide) rfl _).upd h.b h.v h.f (by unfold okc; omega) (by decide) (by decide) rfl _).upd h.b h.v h.f (by unfold okc; omega) (by decide) (by decide) rfl _
theorem DY.sell {D v : Nat} (h : DY D v g bc) (k : Nat) (mn pr : Int32) : DY D v (m_sell g k mn pr) bc := by
  obtain ⟨d, h1, h2, h3⟩ := h
  refine ⟨d, h1, by rw [m_sell_lo _ _ _ _ _ (by omega) (by omega) (by omega)]; exact h2, fun j hj => ?_⟩
  rw [m_sell_lo _ _ _ _ _ (by omega) (by omega) (by omega), m_sell_lo _ _ _ _ _ (by omega) (by omega) (by omega)]
  exact h3 j hj
/-- what a village wants -/
theorem XC.want (h : XC S g bc vc fc mc) {k w s : Nat} (hk : k < bc) (hw : w < vc) (hs : s ≤ 99) (e1 : g (75 + 5 * k) = nI s) : ∃ n, s + n ≤ 99 ∧ s_wish S (nI w) (S 13 k) vc = nI n ∧ m_wanted g k w = nI n := by
  have hv := h.v
  obtain ⟨⟨p, p1, p2⟩, t, t1, t2⟩ := h.2.2.1 w hw
  refine ⟨if s < p then (p - s) * t / 100 else 0, ?_, ?_, ?_⟩
  · split
    · have : (p - s) * t ≤ (p - s) * 100 := Nat.mul_le_mul_left _ t1
      omega
    · omega
  · rw [s_wish, if_pos ⟨nI_nneg (by omega), (nI_ltI (by omega) (by omega)).mpr hw⟩, nI_clamp (by omega), h.1.b13 k hk, h.1.v1 w hw, h.1.v2 w hw, e1, p2, t2]
    by_cases q : s < p
    · have : (p - s) * t ≤ (p - s) * 100 := Nat.mul_le_mul_left _ t1
      rw [if_pos ((nI_ltI (by omega) (by omega)).mpr q), if_pos q, pk_sub (by omega), pk_mul]
      exact pk_div (d := 100) (by omega) (by decide) (by decide)
    · rw [if_neg (fun c => q ((nI_ltI (by omega) (by omega)).mp c)), if_neg q]; rfl
  · rw [m_wanted, p2, t2, e1]
    by_cases q : s < p
    · have : (p - s) * t ≤ (p - s) * 100 := Nat.mul_le_mul_left _ t1
      rw [pk_sub (by omega), if_neg (nI_nle (by omega) (by omega)), if_pos q, pk_mul]
      exact pk_div (d := 100) (by omega) (by decide) (by decide)
    · rw [if_pos (by rw [fa_le, pk_sub_toInt (by omega) (by omega)]; show (p : Int) - s ≤ 0; omega), if_neg q]; rfl
theorem XC.sellB (h : XC S g bc vc fc mc) {f k st : Nat} (hf : f < fc) (hk : k < bc) (hst : st ≤ 99) : ∃ st', st' ≤ 99 ∧ ∃ S' g', s_sellB (g (43 + 5 * f)) f vc k (S, nI st) = (S', nI st') ∧ m_holdB f k (g, nI st) = (g', nI st') ∧ XC S' g' bc vc fc mc ∧ g' (43 + 5 * f) = g (43 + 5 * f) ∧ ∀ D v, DY D v g bc → DY D v g' bc := by
  have hb := h.b
  have hv := h.v
  have hf6 := h.f
  unfold s_sellB m_holdB
  dsimp only
  have x1 := h.1.b10 k hk
  have x2 := h.1.b11 k hk
  have x3 : S 16 0 = g 5 := h.1.c16 0 (by decide)
  by_cases q1 : g (72 + 5 * k) = g (43 + 5 * f)
  · rw [if_pos (x1.trans q1), if_pos q1]
    by_cases q2 : g (73 + 5 * k) ≤ g 5
    · rw [if_pos (show S 11 k ≤ S 16 0 by rw [x2, x3]; exact q2), if_pos q2]
      exact ⟨st, hst, S, g, rfl, rfl, h, rfl, fun _ _ h => h⟩
    · rw [if_neg (show ¬ S 11 k ≤ S 16 0 by rw [x2, x3]; exact q2), if_neg q2]
      obtain ⟨w, hw, ew⟩ := h.2.1.2.2.2.2.1 k hk
      obtain ⟨s, p, s1, s2, s3, s4⟩ := h.2.2.2.2.1 k hk
      obtain ⟨n, n1, n2, n3⟩ := h.want hk hw s1 s3
      obtain ⟨pr, pr1, pr2⟩ := (h.2.2.2.1 f hf).2
      have hm : min n st ≤ n := Nat.min_le_left _ _
      have hm2 : min n st ≤ st := Nat.min_le_right _ _
      have c1 : s_sellC S (g (43 + 5 * f)) k (nI st) vc = nI (min n st) := by
        rw [← q1, ew, s_sellC, n2]
        by_cases q : n < st
        · rw [if_pos ((nI_ltI (by omega) (by omega)).mpr q), Nat.min_eq_left (by omega)]
        · rw [if_neg (fun c => q ((nI_ltI (by omega) (by omega)).mp c)), Nat.min_eq_right (by omega)]
      have c2 : m_many g k (nI st) = nI (min n st) := by
        rw [m_many, vOf, ew, nI_clamp (by omega), n3]
        by_cases q : n ≤ st
        · rw [if_pos ((nI_leI (by omega) (by omega)).mpr q), Nat.min_eq_left q]
        · rw [if_neg (fun c => q ((nI_leI (by omega) (by omega)).mp c)), Nat.min_eq_right (by omega)]
      have hpr : min n st * pr ≤ min n st * 20 := Nat.mul_le_mul_left _ pr1
      rw [c1, c2, h.1.f7 f hf, pr2]
      refine ⟨st - min n st, by omega, _, _, ?_, ?_, h.sell (mn := min n st) (pr := pr) hk s3 s4 (by omega) (by omega), ?_, fun _ _ h => h.sell _ _ _⟩
      · rw [pk_sub hm2]
      · rw [pk_sub hm2]
      · rw [m_sell_lo _ _ _ _ _ (by omega) (by omega) (by omega)]
  · rw [if_neg (show ¬ S 10 k = g (43 + 5 * f) by rw [x1]; exact q1), if_neg q1]
    exact ⟨st, hst, S, g, rfl, rfl, h, rfl, fun _ _ h => h⟩
end DAY
theorem XC.sellL {bc vc fc mc f : Nat} {V : Int32} (hf : f < fc) : ∀ (n i st : Nat) (S : CT) (g : RT), XC S g bc vc fc mc → i + n ≤ bc → st ≤ 99 → g (43 + 5 * f) = V → XC (fo (s_sellB V f vc) i n (S, nI st)).1 (fo (m_holdB f) i n (g, nI st)).1 bc vc fc mc ∧ ∀ D v, DY D v g bc → DY D v (fo (m_holdB f) i n (g, nI st)).1 bc
  | 0, _, _, _, _, h, _, _, _ => ⟨h, fun _ _ h => h⟩
  | n + 1, i, st, S, g, h, hi, hst, hV => by
    subst hV
    obtain ⟨st', h1, S', g', e1, e2, h2, h3, h4⟩ := h.sellB hf (show i < bc by omega) hst
    rw [fo, fo, e1, e2]
    obtain ⟨r1, r2⟩ := XC.sellL hf n (i + 1) st' S' g' h2 (by omega) h1 h3
    exact ⟨r1, fun D v hd => r2 D v (h4 D v hd)⟩
section DAY2
variable {S : CT} {g : RT} {bc vc fc mc : Nat}
theorem XC.fair (h : XC S g bc vc fc mc) {f : Nat} (hf : f < fc) : XC (s_fairB f S) (m_fairB f g) bc vc fc mc ∧ ∀ D v, DY D v g bc → DY D v (m_fairB f g) bc := by
  have hf6 := h.f
  obtain ⟨p, p1, p2, p3⟩ := h.2.1.2.2.2.2.2.1 f hf
  obtain ⟨st, st1, st2⟩ := (h.2.2.2.1 f hf).1
  unfold s_fairB m_fairB
  rw [h.cS.1, h.cS.2.1, h.cG.1]
  have x3 : S 16 0 = g 5 := h.1.c16 0 (by decide)
  have hp : ¬ nI p < 1 := fun c => by have := (nI_ltI (a := p) (b := 1) (by omega) (by omega)).mp c; omega
  by_cases q : imod (g 5 + nI f) (nI p) = 0
  · rw [if_pos (show s_isHeld S f (S 16 0) by show ¬ S 5 f < 1 ∧ imod (S 16 0 + nI f) (S 5 f) = 0; rw [h.1.f5 f hf, x3, p3]; exact ⟨hp, q⟩), if_pos (show m_isHeld g f (g 5) by show imod (g 5 + nI f) (g (44 + 5 * f)) = 0; rw [p3]; exact q), s_sellAt, m_holdFair, h.1.f4 f hf, h.1.f6 f hf, st2]
    exact XC.sellL hf bc 0 st S g h (by omega) st1 rfl
  · rw [if_neg (show ¬ s_isHeld S f (S 16 0) by show ¬ (¬ S 5 f < 1 ∧ imod (S 16 0 + nI f) (S 5 f) = 0); rw [h.1.f5 f hf, x3, p3]; exact fun c => q c.2), if_neg (show ¬ m_isHeld g f (g 5) by show ¬ imod (g 5 + nI f) (g (44 + 5 * f)) = 0; rw [p3]; exact q)]
    exact ⟨h, fun _ _ h => h⟩
end DAY2
theorem XC.fairL {bc vc fc mc : Nat} : ∀ (n f : Nat) (S : CT) (g : RT), XC S g bc vc fc mc → f + n ≤ fc → XC (fo s_fairB f n S) (fo m_fairB f n g) bc vc fc mc ∧ ∀ D v, DY D v g bc → DY D v (fo m_fairB f n g) bc
  | 0, _, _, _, h, _ => ⟨h, fun _ _ h => h⟩
  | n + 1, f, S, g, h, hf => by
    obtain ⟨h1, h2⟩ := h.fair (show f < fc by omega)
    obtain ⟨r1, r2⟩ := XC.fairL n (f + 1) _ _ h1 (by omega)
    exact ⟨r1, fun D v hd => r2 D v (h2 D v hd)⟩
section DAY3
variable {S : CT} {g : RT} {bc vc fc mc : Nat}
theorem XC.dayF (h : XC S g bc vc fc mc) : XC (s_dayF S) (m_dayF g) bc vc fc mc ∧ ∀ D v, DY D v g bc → DY D v (m_dayF g) bc := by
  rw [s_dayF, m_dayF, h.cS.2.2.1, h.cG.2.2.1]
  exact XC.fairL fc 0 S g h (by omega)
-- the sky
theorem XC.sum (h : XC S g bc vc fc mc) : s_sumO S = m_allOdds g := by
  rw [s_sumO, m_allOdds, h.1.odds 0 (by decide), h.1.odds 1 (by decide), h.1.odds 2 (by decide)]
theorem XC.wf (h : XC S g bc vc fc mc) (sd : Int32) : s_wf S sd = m_wb g sd := by
  obtain ⟨a, b, c, a1, b1, c1, s1, e1, e2, e3⟩ := h.2.1.2.2.2.2.2.2.1
  have hs : 1 ≤ m_allOdds g := by
    rw [m_allOdds, e1, e2, e3, nI_add, nI_add]
    exact (nI_leI (a := 1) (by omega) (by omega)).mpr s1
  rw [s_wf, m_wb, s_wfv, m_wbv, h.sum, if_pos hs, h.1.odds 0 (by decide), h.1.odds 1 (by decide)]
  by_cases q1 : imod sd (m_allOdds g) < g 1
  · rw [if_neg (Int32.not_le.mpr q1), if_pos q1]
  · rw [if_pos (Int32.not_lt.mp q1), if_neg q1]
    by_cases q2 : imod sd (m_allOdds g) < g 1 + g 2
    · rw [if_neg (Int32.not_le.mpr q2), if_pos q2]
    · rw [if_pos (Int32.not_lt.mp q2), if_neg q2]
theorem XC.drawW (h : XC S g bc vc fc mc) : s_drawW S = m_wb g (s_seed (g 0)) := by
  rw [s_drawW, h.1.c16 11 (by decide), h.wf]; rfl
theorem XC.draw (h : XC S g bc vc fc mc) : XC (s_draw S) (m_drawn g) bc vc fc mc := by
  have hw := m_wb_lt g (s_seed (g 0))
  refine ⟨?_, h.2.1.drawn, ?_⟩
  · rw [s_draw, m_drawn, h.drawW, h.1.drw _ hw, h.1.c16 11 (by decide)]
    exact (h.1.upd h.b h.v h.f (Or.inl ⟨rfl, by decide⟩) (by decide) (by decide) rfl _).upd h.b h.v h.f (Or.inr (Or.inl ⟨Or.inr rfl, hw⟩)) (by decide) (by decide) rfl _
  · rw [m_drawn]
    exact (h.2.2.lo (by omega) h.b h.v h.f _).lo (by omega) h.b h.v h.f _
theorem DY.drawn {D v : Nat} (h : DY D v g bc) (hb : bc ≤ 30) : DY D v (m_drawn g) bc := by
  have hw := m_wb_lt g (s_seed (g 0))
  rw [m_drawn]
  exact (h.lo (by omega) (by omega) hb _).lo (by omega) (by omega) hb _
end DAY3
-- the verdict on a forecast
section JUDGE
variable {S : CT} {g : RT} {bc vc fc mc : Nat}
theorem m_drop_bk (g : RT) (i bc j r : Nat) (hi : i < bc) (hr : r < 5) (hj : j < bc - 1) : m_drop g i bc (72 + 5 * j + r) = g (72 + 5 * (if j < i then j else j + 1) + r) := by
  rw [m_drop_at]
  by_cases q : j < i
  · rw [if_neg (by omega), if_neg (by omega), if_neg (by omega), if_pos q]
  · rw [if_pos (by omega), if_neg q, show 72 + 5 * j + r + 5 = 72 + 5 * (j + 1) + r by omega]
theorem XC.drop (h : XC S g bc vc fc mc) {k : Nat} (hk : k < bc) : XC (s_judgeEnd S k bc) (m_drop g k bc) (bc - 1) vc fc mc := by
  have hb := h.b
  have hv := h.v
  have hf := h.f
  have lo : ∀ j, j < 72 → j ≠ 8 → j ≠ 14 → m_drop g k bc j = g j := fun j a1 a2 a3 => m_drop_lo g k bc j a2 a3 (by omega)
  have hi : ∀ j, 222 ≤ j → m_drop g k bc j = g j := fun j a1 => m_drop_lo g k bc j (by omega) (by omega) (by omega)
  have row : ∀ r, r < 10 ∨ r = 15 → s_judgeEnd S k bc r = S r := by
    intro r hr
    rw [s_judgeEnd, s_remove, us_row (by omega), ur_row (by omega), ur_row (by omega), ur_row (by omega), ur_row (by omega), ur_row (by omega), us_row (by omega)]
  have r16 : ∀ j, s_judgeEnd S k bc 16 j = if j = 12 then nI (bc - 1) else if j = 6 then S 16 6 + S 13 k else S 16 j := by
    intro j
    rw [s_judgeEnd, s_remove]
    by_cases q : j = 12
    · subst q; rw [us_at, if_pos rfl, show k + (bc - (k + 1)) = bc - 1 by omega]
    · rw [us_un (by omega), ur_row (by decide), ur_row (by decide), ur_row (by decide), ur_row (by decide), ur_row (by decide), if_neg q]
      by_cases q6 : j = 6
      · subst q6; rw [us_at, if_pos rfl]
      · rw [us_un (by omega), if_neg q6]
  have bk : ∀ r, 10 ≤ r → r < 15 → ∀ j, j < bc - 1 → s_judgeEnd S k bc r j = S r (if j < k then j else j + 1) := by
    intro r h1 h2 j hj
    have cp : ∀ f : RT, va_cpy f f (k + 1) k (bc - (k + 1)) j = f (if j < k then j else j + 1) := by
      intro f
      rw [va_cpy]
      by_cases q : j < k
      · rw [if_neg (by omega), if_pos q]
      · rw [if_pos (by omega), if_neg q, show k + 1 + (j - k) = j + 1 by omega]
    rw [s_judgeEnd, s_remove, us_row (by omega)]
    rcases (show r = 10 ∨ r = 11 ∨ r = 12 ∨ r = 13 ∨ r = 14 by omega) with rfl | rfl | rfl | rfl | rfl
    · rw [ur_row (by decide), ur_row (by decide), ur_row (by decide), ur_row (by decide), ur_at, cp, us_row (by decide)]
    · rw [ur_row (by decide), ur_row (by decide), ur_row (by decide), ur_at, cp, us_row (by decide)]
    · rw [ur_row (by decide), ur_row (by decide), ur_at, cp, us_row (by decide)]
    · rw [ur_row (by decide), ur_at, cp, us_row (by decide)]
    · rw [ur_at, cp, us_row (by decide)]
  have od : ∀ (P : Nat → Prop), (∀ j, j < bc → P j) → ∀ j, j < bc - 1 → P (if j < k then j else j + 1) := by
    intro P hP j hj
    split
    · exact hP j (by omega)
    · exact hP (j + 1) (by omega)
  refine ⟨⟨fun r j ho q0 q3 => ?_, fun i hi' => ?_, fun f hf' => ?_, fun m hm => ?_⟩, h.2.1.drop k hk, fun i hi' => ?_, fun f hf' => ?_, ?_, ?_⟩
  · rcases ho with ⟨rfl, hj⟩ | ⟨hr, hj⟩ | ⟨hr, hj⟩ | ⟨hr, hr', hj⟩ | ⟨hr, hr', hj⟩
    · rw [r16, show fw 16 j = sx j from rfl]
      by_cases q : j = 12
      · subst q; rw [if_pos rfl]; show _ = m_drop g k bc 8; rw [m_drop_at, if_neg (by omega), if_pos rfl]
      · rw [if_neg q]
        by_cases q6 : j = 6
        · subst q6; rw [if_pos rfl]; show _ = m_drop g k bc 14; rw [m_drop_at, if_neg (by omega), if_neg (by decide), if_pos rfl, h.1.b13 k hk, h.1.c16 6 (by decide)]; rfl
        · rw [if_neg q6, h.1.c16 j hj]
          have hx : ∀ j, j < 14 → j ≠ 12 → j ≠ 6 → sx j < 72 ∧ sx j ≠ 8 ∧ sx j ≠ 14 := by decide
          have := hx j hj q q6
          rw [lo _ this.1 this.2.1 this.2.2]
    · rcases hr with rfl | rfl
      · rw [row 8 (by decide), h.1.odds j hj, show fw 8 j = 1 + j from rfl, lo _ (by omega) (by omega) (by omega)]
      · rw [row 9 (by decide), h.1.drw j hj, show fw 9 j = 17 + j from rfl, lo _ (by omega) (by omega) (by omega)]
    · rw [row r (by omega), h.1.1 r j (by unfold okc; omega) q0 q3]
      have e : fw r j = 24 + 3 * j + r := by rw [fw, if_neg (by omega), if_neg (by omega), if_neg (by omega), if_pos hr]
      rw [e, lo _ (by omega) (by omega) (by omega)]
    · rw [row r (by omega), h.1.1 r j (by unfold okc; omega) q0 q3]
      have e : fw r j = 39 + 5 * j + r := by rw [fw, if_neg (by omega), if_neg (by omega), if_neg (by omega), if_neg (by omega), if_pos hr']
      rw [e, lo _ (by omega) (by omega) (by omega)]
    · rw [bk r hr hr' j hj]
      have e : ∀ j, fw r j = 72 + 5 * j + (r - 10) := fun j => by rw [fw, if_neg (by omega), if_neg (by omega), if_neg (by omega), if_neg (by omega), if_neg (by omega)]; omega
      rw [e, m_drop_bk g k bc j _ hk (by omega) hj, ← e]
      exact od (fun j => S r j = g (fw r j)) (fun j hj => h.1.1 r j (by unfold okc; omega) q0 q3) j hj
  · rw [row 0 (by decide), lo _ (by omega) (by omega) (by omega)]; exact h.1.2.1 i hi'
  · rw [row 3 (by decide), lo _ (by omega) (by omega) (by omega)]; exact h.1.2.2.1 f hf'
  · rw [row 15 (by decide), hi _ (by omega), hi _ (by omega)]; exact h.1.2.2.2 m hm
  · rw [lo _ (by omega) (by omega) (by omega), lo _ (by omega) (by omega) (by omega)]; exact h.2.2.1 i hi'
  · rw [lo _ (by omega) (by omega) (by omega), lo _ (by omega) (by omega) (by omega)]; exact h.2.2.2.1 f hf'
  · intro j hj
    have e3 := m_drop_bk g k bc j 3 hk (by decide) hj
    have e4 := m_drop_bk g k bc j 4 hk (by decide) hj
    rw [show 72 + 5 * j + 3 = 75 + 5 * j by omega, show ∀ x, 72 + 5 * x + 3 = 75 + 5 * x from fun x => by omega] at e3
    rw [show 72 + 5 * j + 4 = 76 + 5 * j by omega, show ∀ x, 72 + 5 * x + 4 = 76 + 5 * x from fun x => by omega] at e4
    rw [e3, e4]
    exact od (fun j => ∃ s p, s ≤ 99 ∧ p ≤ 20 * s ∧ g (75 + 5 * j) = nI s ∧ g (76 + 5 * j) = nI p) h.2.2.2.2.1 j hj
  · intro i j hij hj
    have e0 := fun j hj => m_drop_bk g k bc j 0 hk (by decide) hj
    have e1 := fun j hj => m_drop_bk g k bc j 1 hk (by decide) hj
    simp only [Nat.add_zero] at e0
    have e1' : ∀ j, j < bc - 1 → m_drop g k bc (73 + 5 * j) = g (73 + 5 * (if j < k then j else j + 1)) := fun j hj => by
      have := e1 j hj
      rw [show 72 + 5 * j + 1 = 73 + 5 * j by omega, show ∀ x, 72 + 5 * x + 1 = 73 + 5 * x from fun x => by omega] at this
      exact this
    rw [e0 i (by omega), e0 j hj, e1' i (by omega), e1' j hj]
    exact h.2.2.2.2.2 _ _ (by split <;> split <;> omega) (by split <;> omega)
/-- the memory of the regrets -/
theorem m_regret_at (g : RT) (v : Int32) {mc : Nat} (hm : mc ≤ 10) (j : Nat) : m_regret g v mc j = if j = 11 then g 11 + 1 else if j = 9 then nI (min mc 9 + 1) else if j = 223 + 2 * min mc 9 then v else if j = 222 + 2 * min mc 9 then g 5 else m_regret0 g mc j := by
  rw [m_regret]
  by_cases q1 : j = 11
  · subst q1; rw [pk_us, if_pos rfl, m_regret0_lo g mc 11 (by omega) (by omega)]
  · rw [pk_un q1, if_neg q1]
    by_cases q2 : j = 9
    · subst q2; rw [pk_us, if_pos rfl]
    · rw [pk_un q2, if_neg q2]
      by_cases q3 : j = 223 + 2 * min mc 9
      · subst q3; rw [pk_us, if_pos rfl]
      · rw [pk_un q3, if_neg q3]
        by_cases q4 : j = 222 + 2 * min mc 9
        · subst q4; rw [pk_us, if_pos rfl, m_regret0_lo g mc 5 (by omega) (by omega)]
        · rw [pk_un q4, if_neg q4]
theorem XC.regret (h : XC S g bc vc fc mc) (v : Int32) : XC (s_memAdd (us S 16 3 (S 16 3 + 1)) v (S 16 0) mc) (m_regret g v mc) bc vc fc (min mc 9 + 1) := by
  have hb := h.b
  have hv := h.v
  have hf := h.f
  have hm := h.m
  have lo : ∀ j, j < 222 → j ≠ 9 → j ≠ 11 → m_regret g v mc j = g j := fun j a1 a2 a3 => m_regret_lo g v mc j a1 a2 a3
  have row : ∀ r, r < 15 → s_memAdd (us S 16 3 (S 16 3 + 1)) v (S 16 0) mc r = S r := by
    intro r hr
    unfold s_memAdd
    split
    · rw [us_row (by omega), us_row (by omega), us_row (by omega), ur_row (by omega), us_row (by omega)]
    · rw [us_row (by omega), us_row (by omega), us_row (by omega)]
  have r16 : ∀ j, s_memAdd (us S 16 3 (S 16 3 + 1)) v (S 16 0) mc 16 j = if j = 13 then nI (min mc 9 + 1) else if j = 3 then S 16 3 + 1 else S 16 j := by
    intro j
    by_cases q : j = 13
    · subst q
      rw [s_memAdd_13 _ _ _ _ hm, if_pos rfl, show min (mc + 1) 10 = min mc 9 + 1 by omega]
    · rw [s_memAdd_16 _ _ _ _ _ q, if_neg q]
      by_cases q3 : j = 3
      · subst q3; rw [us_at, if_pos rfl]
      · rw [us_un (by omega), if_neg q3]
  have h5 : S 16 0 = g 5 := h.1.c16 0 (by decide)
  refine ⟨⟨fun r j ho q0 q3 => ?_, fun i hi' => ?_, fun f hf' => ?_, fun m hm' => ?_⟩, h.2.1.regret v, fun i hi' => ?_, fun f hf' => ?_, fun k hk => ?_, fun j k hj hk => ?_⟩
  · by_cases q16 : r = 16
    · subst q16
      have hj : j < 14 := by unfold okc at ho; omega
      rw [r16, show fw 16 j = sx j from rfl]
      by_cases q : j = 13
      · subst q; rw [if_pos rfl]; show _ = m_regret g v mc 9; rw [m_regret_at g v hm, if_neg (by decide), if_pos rfl]
      · rw [if_neg q]
        by_cases q3 : j = 3
        · subst q3; rw [if_pos rfl]; show _ = m_regret g v mc 11; rw [m_regret_at g v hm, if_pos rfl, h.1.c16 3 (by decide)]; rfl
        · rw [if_neg q3, h.1.c16 j hj]
          have hx : ∀ j, j < 14 → j ≠ 13 → j ≠ 3 → sx j < 222 ∧ sx j ≠ 9 ∧ sx j ≠ 11 := by decide
          have := hx j hj q q3
          rw [lo _ this.1 this.2.1 this.2.2]
    · have hl := fw_lt (r := r) (j := j) (by unfold okc at ho ⊢; omega)
      have n9 : fw r j ≠ 9 := fun e => by
        have := fw_inj (r := r) (j := j) (r' := 16) (j' := 13) (by unfold okc at ho ⊢; omega) (by unfold okc; omega) (e.trans rfl)
        omega
      have n11 : fw r j ≠ 11 := fun e => by
        have := fw_inj (r := r) (j := j) (r' := 16) (j' := 3) (by unfold okc at ho ⊢; omega) (by unfold okc; omega) (e.trans rfl)
        omega
      rw [row r (by unfold okc at ho; omega), lo _ hl n9 n11]
      exact h.1.1 r j ho q0 q3
  · rw [row 0 (by decide), lo _ (by omega) (by omega) (by omega)]; exact h.1.2.1 i hi'
  · rw [row 3 (by decide), lo _ (by omega) (by omega) (by omega)]; exact h.1.2.2.1 f hf'
  · have a1 : m_regret g v mc (222 + 2 * m) = if m = min mc 9 then g 5 else m_regret0 g mc (222 + 2 * m) := by
      rw [m_regret_at g v hm, if_neg (by omega), if_neg (by omega), if_neg (by omega)]
      by_cases q : m = min mc 9
      · rw [if_pos q, if_pos (by omega)]
      · rw [if_neg q, if_neg (by omega)]
    have a2 : m_regret g v mc (223 + 2 * m) = if m = min mc 9 then v else m_regret0 g mc (223 + 2 * m) := by
      rw [m_regret_at g v hm, if_neg (by omega), if_neg (by omega)]
      by_cases q : m = min mc 9
      · rw [if_pos q, if_pos (by omega)]
      · rw [if_neg q, if_neg (by omega), if_neg (by omega)]
    rw [a1, a2]
    by_cases q : m = min mc 9
    · rw [if_pos q, if_pos q, q]
      unfold s_memAdd
      split
      · rename_i c
        rw [us_row (by decide), show min mc 9 = 9 by omega, us_at, s_label, h5]
      · rename_i c
        rw [us_row (by decide), show min mc 9 = mc by omega, us_at, s_label, h5]
    · rw [if_neg q, if_neg q]
      unfold s_memAdd m_regret0
      by_cases c : 10 ≤ mc
      · have hm10 : mc = 10 := by omega
        rw [if_pos c, if_pos hm10, us_row (by decide), us_un (by omega), us_row (by decide), ur_at, va_cpy, if_pos (by omega), us_row (by decide), m_sh2_at, m_sh2_at, if_pos (by omega), if_pos (by omega), pk_un (by omega), pk_un (by omega), show 1 + (m - 0) = m + 1 by omega, show 222 + 2 * m + 2 = 222 + 2 * (m + 1) by omega, show 223 + 2 * m + 2 = 223 + 2 * (m + 1) by omega]
        exact h.1.2.2.2 (m + 1) (by omega)
      · rw [if_neg c, if_neg (show ¬ mc = 10 by omega), us_row (by decide), us_un (by omega), us_row (by decide)]
        exact h.1.2.2.2 m (by omega)
  · rw [lo _ (by omega) (by omega) (by omega), lo _ (by omega) (by omega) (by omega)]; exact h.2.2.1 i hi'
  · rw [lo _ (by omega) (by omega) (by omega), lo _ (by omega) (by omega) (by omega)]; exact h.2.2.2.1 f hf'
  · rw [lo _ (by omega) (by omega) (by omega), lo _ (by omega) (by omega) (by omega)]; exact h.2.2.2.2.1 k hk
  · rw [lo _ (by omega) (by omega) (by omega), lo _ (by omega) (by omega) (by omega), lo _ (by omega) (by omega) (by omega), lo _ (by omega) (by omega) (by omega)]; exact h.2.2.2.2.2 j k hj hk
end JUDGE

/-! THE PURE EQUIVALENCE: a State's cells and the model's row, cell by cell -/
theorem us_at (S : CT) (r j : Nat) (x : Int32) : us S r j x r j = x := by
  show (if r = r then upd (S r) j x else S r) j = x
  rw [if_pos rfl, pk_us]
theorem us_un {S : CT} {r j r' j' : Nat} {x : Int32} (h : ¬ (r' = r ∧ j' = j)) : us S r j x r' j' = S r' j' := by
  show (if r' = r then upd (S r) j x else S r') j' = S r' j'
  by_cases e : r' = r
  · subst e
    rw [if_pos rfl, pk_un (fun q => h ⟨rfl, q⟩)]
  · rw [if_neg e]
theorem us_row {S : CT} {r j r' : Nat} {x : Int32} (h : r' ≠ r) : us S r j x r' = S r' := if_neg h
theorem ur_at (S : CT) (r : Nat) (f : RT) : ur S r f r = f := if_pos rfl
theorem ur_row {S : CT} {r r' : Nat} {f : RT} (h : r' ≠ r) : ur S r f r' = S r' := if_neg h
/-- where the model keeps cell j of row r -/
def fw (r j : Nat) : Nat := if r = 16 then sx j else if r = 8 then 1 + j else if r = 9 then 17 + j else if r < 3 then 24 + 3 * j + r else if r < 8 then 39 + 5 * j + r else 62 + 5 * j + r
/-- and back -/
def iv (b : Nat) : Nat × Nat := if b < 20 then [(16, 11), (8, 0), (8, 1), (8, 2), (16, 1), (16, 0), (16, 9), (16, 10), (16, 12), (16, 13), (16, 2), (16, 3), (16, 4), (16, 5), (16, 6), (16, 7), (16, 8), (9, 0), (9, 1), (9, 2)].getD b (0, 0) else if b < 42 then ((b - 24) % 3, (b - 24) / 3) else if b < 72 then (3 + (b - 42) % 5, (b - 42) / 5) else (10 + (b - 72) % 5, (b - 72) / 5)
/-- the cells that say something -/
abbrev okc (vc fc bc r j : Nat) : Prop := (r = 16 ∧ j < 14) ∨ ((r = 8 ∨ r = 9) ∧ j < 3) ∨ (r < 3 ∧ j < vc) ∨ (3 ≤ r ∧ r < 8 ∧ j < fc) ∨ (10 ≤ r ∧ r < 15 ∧ j < bc)
def okb (r j : Nat) : Bool := (decide (r = 16) && decide (j < 14)) || ((decide (r = 8) || decide (r = 9)) && decide (j < 3)) || (decide (r < 8) && decide (j < 6)) || (decide (10 ≤ r) && decide (r < 15) && decide (j < 30))
theorem okc_b {r j : Nat} (h : okc 6 6 30 r j) : okb r j = true := by
  simp only [okb, Bool.or_eq_true, Bool.and_eq_true, decide_eq_true_eq]
  unfold okc at h
  omega
theorem iv_fw0 : ∀ r, r < 17 → ∀ j, j < 30 → (!okb r j || (decide ((iv (fw r j)).1 = r) && decide ((iv (fw r j)).2 = j) && decide (fw r j < 222))) = true := by decide +kernel
theorem iv_fw {r j : Nat} (h : okc 6 6 30 r j) : ((iv (fw r j)).1 = r ∧ (iv (fw r j)).2 = j) ∧ fw r j < 222 := by
  have h1 := iv_fw0 r (by unfold okc at h; omega) j (by unfold okc at h; omega)
  rw [okc_b h] at h1
  simpa only [Bool.not_true, Bool.false_or, Bool.and_eq_true, decide_eq_true_eq] using h1
theorem fw_inj {r j r' j' : Nat} (h : okc 6 6 30 r j) (h' : okc 6 6 30 r' j') (e : fw r j = fw r' j') : r = r' ∧ j = j' := by
  have h1 := (iv_fw h).1
  rw [e, (iv_fw h').1.1, (iv_fw h').1.2] at h1
  exact ⟨h1.1.symm, h1.2.symm⟩
theorem fw_lt {r j : Nat} (h : okc 6 6 30 r j) : fw r j < 222 := (iv_fw h).2
theorem fw_0 (i : Nat) : fw 0 i = 24 + 3 * i := rfl
theorem fw_1 (i : Nat) : fw 1 i = 25 + 3 * i := by show 24 + 3 * i + 1 = _; omega
theorem fw_2 (i : Nat) : fw 2 i = 26 + 3 * i := by show 24 + 3 * i + 2 = _; omega
theorem fw_3 (i : Nat) : fw 3 i = 42 + 5 * i := by show 39 + 5 * i + 3 = _; omega
theorem fw_4 (i : Nat) : fw 4 i = 43 + 5 * i := by show 39 + 5 * i + 4 = _; omega
theorem fw_5 (i : Nat) : fw 5 i = 44 + 5 * i := by show 39 + 5 * i + 5 = _; omega
theorem fw_6 (i : Nat) : fw 6 i = 45 + 5 * i := by show 39 + 5 * i + 6 = _; omega
theorem fw_7 (i : Nat) : fw 7 i = 46 + 5 * i := by show 39 + 5 * i + 7 = _; omega
theorem fw_10 (i : Nat) : fw 10 i = 72 + 5 * i := by show 62 + 5 * i + 10 = _; omega
theorem fw_11 (i : Nat) : fw 11 i = 73 + 5 * i := by show 62 + 5 * i + 11 = _; omega
theorem fw_12 (i : Nat) : fw 12 i = 74 + 5 * i := by show 62 + 5 * i + 12 = _; omega
theorem fw_13 (i : Nat) : fw 13 i = 75 + 5 * i := by show 62 + 5 * i + 13 = _; omega
theorem fw_14 (i : Nat) : fw 14 i = 76 + 5 * i := by show 62 + 5 * i + 14 = _; omega
def SP (S : CT) (g : RT) (bc vc fc mc : Nat) : Prop := (∀ r j, okc vc fc bc r j → r ≠ 0 → r ≠ 3 → S r j = g (fw r j)) ∧ (∀ i, i < vc → NR (S 0 i) (g (24 + 3 * i))) ∧ (∀ f, f < fc → NR (S 3 f) (g (42 + 5 * f))) ∧ (∀ k, k < mc → S 15 k = 10 * g (222 + 2 * k) + g (223 + 2 * k))
section SPS
variable {S : CT} {g : RT} {bc vc fc mc : Nat}
theorem SP.upd (h : SP S g bc vc fc mc) (hb : bc ≤ 30) (hv : vc ≤ 6) (hf : fc ≤ 6) {r i a : Nat} (hr : okc 6 6 30 r i) (h0 : r ≠ 0) (h3 : r ≠ 3) (ha : fw r i = a) (x : Int32) : SP (us S r i x) (upd g a x) bc vc fc mc := by
  subst ha
  have hlt := fw_lt hr
  have h15 : 15 ≠ r := by unfold okc at hr; omega
  refine ⟨fun r' j' ho q0 q3 => ?_, fun w hw => ?_, fun f hf' => ?_, fun k hk => ?_⟩
  · have ho' : okc 6 6 30 r' j' := by unfold okc at ho ⊢; omega
    by_cases e : r' = r ∧ j' = i
    · obtain ⟨rfl, rfl⟩ := e
      rw [pk_us, us_at]
    · rw [pk_un (fun q => e (fw_inj ho' hr q)), us_un e]
      exact h.1 r' j' ho q0 q3
  · rw [us_row (fun q => h0 q.symm), pk_un (j := 24 + 3 * w) (fun q => h0 (fw_inj (r := 0) (j := w) (by unfold okc; omega) hr q).1.symm)]
    exact h.2.1 w hw
  · rw [us_row (fun q => h3 q.symm), pk_un (j := 42 + 5 * f) (fun q => h3 (fw_inj (r := 3) (j := f) (by unfold okc; omega) hr ((fw_3 f).trans q)).1.symm)]
    exact h.2.2.1 f hf'
  · rw [us_row h15, pk_un (by omega), pk_un (by omega)]
    exact h.2.2.2 k hk
theorem SP.c16 (h : SP S g bc vc fc mc) (j : Nat) (hj : j < 14) : S 16 j = g (sx j) := h.1 16 j (Or.inl ⟨rfl, hj⟩) (by decide) (by decide)
theorem SP.odds (h : SP S g bc vc fc mc) (i : Nat) (hi : i < 3) : S 8 i = g (1 + i) := h.1 8 i (Or.inr (Or.inl ⟨Or.inl rfl, hi⟩)) (by decide) (by decide)
theorem SP.drw (h : SP S g bc vc fc mc) (i : Nat) (hi : i < 3) : S 9 i = g (17 + i) := h.1 9 i (Or.inr (Or.inl ⟨Or.inr rfl, hi⟩)) (by decide) (by decide)
theorem SP.vil (h : SP S g bc vc fc mc) (r : Nat) (h1 : 1 ≤ r) (h2 : r < 3) (i : Nat) (hi : i < vc) : S r i = g (24 + 3 * i + r) := by
  have := h.1 r i (by unfold okc; omega) (by omega) (by omega)
  rw [this, fw, if_neg (by omega), if_neg (by omega), if_neg (by omega), if_pos h2]
theorem SP.fai (h : SP S g bc vc fc mc) (r : Nat) (h1 : 4 ≤ r) (h2 : r < 8) (i : Nat) (hi : i < fc) : S r i = g (39 + 5 * i + r) := by
  have := h.1 r i (by unfold okc; omega) (by omega) (by omega)
  rw [this, fw, if_neg (by omega), if_neg (by omega), if_neg (by omega), if_neg (by omega), if_pos h2]
theorem SP.bok (h : SP S g bc vc fc mc) (r : Nat) (h1 : 10 ≤ r) (h2 : r < 15) (i : Nat) (hi : i < bc) : S r i = g (62 + 5 * i + r) := by
  have := h.1 r i (by unfold okc; omega) (by omega) (by omega)
  rw [this, fw, if_neg (by omega), if_neg (by omega), if_neg (by omega), if_neg (by omega), if_neg (by omega)]
theorem SP.b10 (h : SP S g bc vc fc mc) (i : Nat) (hi : i < bc) : S 10 i = g (72 + 5 * i) := by rw [h.bok 10 (by decide) (by decide) i hi, show 62 + 5 * i + 10 = 72 + 5 * i by omega]
theorem SP.b11 (h : SP S g bc vc fc mc) (i : Nat) (hi : i < bc) : S 11 i = g (73 + 5 * i) := by rw [h.bok 11 (by decide) (by decide) i hi, show 62 + 5 * i + 11 = 73 + 5 * i by omega]
theorem SP.b12 (h : SP S g bc vc fc mc) (i : Nat) (hi : i < bc) : S 12 i = g (74 + 5 * i) := by rw [h.bok 12 (by decide) (by decide) i hi, show 62 + 5 * i + 12 = 74 + 5 * i by omega]
theorem SP.b13 (h : SP S g bc vc fc mc) (i : Nat) (hi : i < bc) : S 13 i = g (75 + 5 * i) := by rw [h.bok 13 (by decide) (by decide) i hi, show 62 + 5 * i + 13 = 75 + 5 * i by omega]
theorem SP.b14 (h : SP S g bc vc fc mc) (i : Nat) (hi : i < bc) : S 14 i = g (76 + 5 * i) := by rw [h.bok 14 (by decide) (by decide) i hi, show 62 + 5 * i + 14 = 76 + 5 * i by omega]
theorem SP.v1 (h : SP S g bc vc fc mc) (i : Nat) (hi : i < vc) : S 1 i = g (25 + 3 * i) := by rw [h.vil 1 (by decide) (by decide) i hi, show 24 + 3 * i + 1 = 25 + 3 * i by omega]
theorem SP.v2 (h : SP S g bc vc fc mc) (i : Nat) (hi : i < vc) : S 2 i = g (26 + 3 * i) := by rw [h.vil 2 (by decide) (by decide) i hi, show 24 + 3 * i + 2 = 26 + 3 * i by omega]
theorem SP.f4 (h : SP S g bc vc fc mc) (i : Nat) (hi : i < fc) : S 4 i = g (43 + 5 * i) := by rw [h.fai 4 (by decide) (by decide) i hi, show 39 + 5 * i + 4 = 43 + 5 * i by omega]
theorem SP.f5 (h : SP S g bc vc fc mc) (i : Nat) (hi : i < fc) : S 5 i = g (44 + 5 * i) := by rw [h.fai 5 (by decide) (by decide) i hi, show 39 + 5 * i + 5 = 44 + 5 * i by omega]
theorem SP.f6 (h : SP S g bc vc fc mc) (i : Nat) (hi : i < fc) : S 6 i = g (45 + 5 * i) := by rw [h.fai 6 (by decide) (by decide) i hi, show 39 + 5 * i + 6 = 45 + 5 * i by omega]
theorem SP.f7 (h : SP S g bc vc fc mc) (i : Nat) (hi : i < fc) : S 7 i = g (46 + 5 * i) := by rw [h.fai 7 (by decide) (by decide) i hi, show 39 + 5 * i + 7 = 46 + 5 * i by omega]
end SPS
/-- bounds: people, trust; stock, price; sold, paid; each village's day once -/
def PT (g : RT) (bc vc fc : Nat) : Prop :=
  (∀ i, i < vc → (∃ p, p ≤ 99 ∧ g (25 + 3 * i) = nI p) ∧ ∃ t, t ≤ 100 ∧ g (26 + 3 * i) = nI t) ∧
  (∀ f, f < fc → (∃ s, s ≤ 99 ∧ g (45 + 5 * f) = nI s) ∧ ∃ p, p ≤ 20 ∧ g (46 + 5 * f) = nI p) ∧
  (∀ k, k < bc → ∃ s p, s ≤ 99 ∧ p ≤ 20 * s ∧ g (75 + 5 * k) = nI s ∧ g (76 + 5 * k) = nI p) ∧
  (∀ j k, j < k → k < bc → ¬ (g (72 + 5 * j) = g (72 + 5 * k) ∧ g (73 + 5 * j) = g (73 + 5 * k)))
/-- the days: today at most D; each forecast within thirty days; a forecast of today only for a village from v on -/
def DY (D v : Nat) (g : RT) (bc : Nat) : Prop := ∃ d, d ≤ D ∧ g 5 = nI d ∧ ∀ k, k < bc → ∃ e, d ≤ e ∧ e ≤ d + 30 ∧ g (73 + 5 * k) = nI e ∧ (e = d → ∃ w, v ≤ w ∧ w < 6 ∧ g (72 + 5 * k) = nI w)
theorem PT.lo {g : RT} {bc vc fc : Nat} (h : PT g bc vc fc) {a : Nat} (ha : a < 24 ∨ 222 ≤ a) (hb : bc ≤ 30) (hv : vc ≤ 6) (hf : fc ≤ 6) (x : Int32) : PT (upd g a x) bc vc fc := by
  refine ⟨fun i hi => ?_, fun f hf => ?_, fun k hk => ?_, fun j k hj hk => ?_⟩
  · rw [pk_un (by omega), pk_un (by omega)]; exact h.1 i hi
  · rw [pk_un (by omega), pk_un (by omega)]; exact h.2.1 f hf
  · rw [pk_un (by omega), pk_un (by omega)]; exact h.2.2.1 k hk
  · rw [pk_un (by omega), pk_un (by omega), pk_un (by omega), pk_un (by omega)]; exact h.2.2.2 j k hj hk
theorem DY.lo {D v : Nat} {g : RT} {bc : Nat} (h : DY D v g bc) {a : Nat} (ha : a < 72 ∨ 222 ≤ a ∨ ∃ k, a = 75 + 5 * k ∨ a = 76 + 5 * k) (h5 : a ≠ 5) (hb : bc ≤ 30) (x : Int32) : DY D v (upd g a x) bc := by
  obtain ⟨d, h1, h2, h3⟩ := h
  refine ⟨d, h1, by rw [pk_un (fun e => h5 e.symm)]; exact h2, fun k hk => ?_⟩
  have e1 : 73 + 5 * k ≠ a := by rcases ha with h | h | ⟨k', h | h⟩ <;> omega
  have e2 : 72 + 5 * k ≠ a := by rcases ha with h | h | ⟨k', h | h⟩ <;> omega
  rw [pk_un e1, pk_un e2]
  exact h3 k hk
/-- a State and a row: the same, and sound -/
def XC (S : CT) (g : RT) (bc vc fc mc : Nat) : Prop := SP S g bc vc fc mc ∧ mI g bc vc fc mc ∧ PT g bc vc fc
theorem XC.b {S : CT} {g : RT} {bc vc fc mc : Nat} (h : XC S g bc vc fc mc) : bc ≤ 30 := h.2.1.1.2
theorem XC.v {S : CT} {g : RT} {bc vc fc mc : Nat} (h : XC S g bc vc fc mc) : vc ≤ 6 := h.2.1.2.1.2
theorem XC.f {S : CT} {g : RT} {bc vc fc mc : Nat} (h : XC S g bc vc fc mc) : fc ≤ 6 := h.2.1.2.2.1.2
theorem XC.m {S : CT} {g : RT} {bc vc fc mc : Nat} (h : XC S g bc vc fc mc) : mc ≤ 10 := h.2.1.2.2.2.1.2
theorem XC.cS {S : CT} {g : RT} {bc vc fc mc : Nat} (h : XC S g bc vc fc mc) : bcO S = bc ∧ vcO S = vc ∧ fcO S = fc ∧ mcO S = mc :=
  ⟨bcO_eq ((h.1.c16 12 (by decide)).trans h.2.1.1.1) h.b, vcO_eq ((h.1.c16 9 (by decide)).trans h.2.1.2.1.1) h.v, fcO_eq ((h.1.c16 10 (by decide)).trans h.2.1.2.2.1.1) h.f, mcO_eq ((h.1.c16 13 (by decide)).trans h.2.1.2.2.2.1.1) h.m⟩
theorem XC.cG {S : CT} {g : RT} {bc vc fc mc : Nat} (h : XC S g bc vc fc mc) : m_bc g = bc ∧ m_vc g = vc ∧ m_fc g = fc ∧ m_mc g = mc := ⟨h.2.1.bc, h.2.1.vc, h.2.1.fc, h.2.1.mc⟩
theorem SQ.sp {S : CT} {g : RT} (h : SQ S g) : SP S g (m_bc g) (m_vc g) (m_fc g) (m_mc g) := by
  obtain ⟨h1, h2, h3, h4, h5, h6⟩ := h
  refine ⟨fun r j ho r0 r3 => ?_, fun i hi => (h3 i hi).1, fun f hf => (h4 f hf).1, h6⟩
  rcases ho with ⟨rfl, hj⟩ | ⟨rfl | rfl, hj⟩ | ⟨hr, hj⟩ | ⟨hr, hr', hj⟩ | ⟨hr, hr', hj⟩
  · exact h1 j hj
  · exact (h2 j hj).1
  · exact (h2 j hj).2
  · rcases (show r = 1 ∨ r = 2 by omega) with rfl | rfl
    · rw [fw_1]; exact (h3 j hj).2.1
    · rw [fw_2]; exact (h3 j hj).2.2
  · rcases (show r = 4 ∨ r = 5 ∨ r = 6 ∨ r = 7 by omega) with rfl | rfl | rfl | rfl
    · rw [fw_4]; exact (h4 j hj).2.1
    · rw [fw_5]; exact (h4 j hj).2.2.1
    · rw [fw_6]; exact (h4 j hj).2.2.2.1
    · rw [fw_7]; exact (h4 j hj).2.2.2.2
  · rcases (show r = 10 ∨ r = 11 ∨ r = 12 ∨ r = 13 ∨ r = 14 by omega) with rfl | rfl | rfl | rfl | rfl
    · rw [fw_10]; exact (h5 j hj).1
    · rw [fw_11]; exact (h5 j hj).2.1
    · rw [fw_12]; exact (h5 j hj).2.2.1
    · rw [fw_13]; exact (h5 j hj).2.2.2.1
    · rw [fw_14]; exact (h5 j hj).2.2.2.2
theorem SP.sq {S : CT} {g : RT} (h : SP S g (m_bc g) (m_vc g) (m_fc g) (m_mc g)) : SQ S g :=
  ⟨fun j hj => h.c16 j hj, fun i hi => ⟨h.odds i hi, h.drw i hi⟩, fun i hi => ⟨h.2.1 i hi, h.v1 i hi, h.v2 i hi⟩, fun f hf => ⟨h.2.2.1 f hf, h.f4 f hf, h.f5 f hf, h.f6 f hf, h.f7 f hf⟩, fun k hk => ⟨h.b10 k hk, h.b11 k hk, h.b12 k hk, h.b13 k hk, h.b14 k hk⟩, h.2.2.2⟩
theorem SR.xc {D : Nat} {S : CT} {g : RT} (h : SR D S g) : XC S g (m_bc g) (m_vc g) (m_fc g) (m_mc g) ∧ DY D 6 g (m_bc g) := by
  obtain ⟨hq, hG, ⟨d, d1, d2, d3⟩, h2⟩ := h
  refine ⟨⟨hq.sp, hG, h2⟩, d, d1, d2, fun k hk => ?_⟩
  obtain ⟨e, e1, e2, e3⟩ := d3 k hk
  exact ⟨e, by omega, e2, e3, fun q => by omega⟩
theorem XC.sr {D : Nat} {S : CT} {g : RT} {bc vc fc mc : Nat} (h : XC S g bc vc fc mc) (hd : DY D 6 g bc) : SR D S g := by
  obtain ⟨e1, e2, e3, e4⟩ := h.cG
  subst e1 e2 e3 e4
  obtain ⟨d, d1, d2, d3⟩ := hd
  refine ⟨h.1.sq, h.2.1, ⟨d, d1, d2, fun k hk => ?_⟩, h.2.2⟩
  obtain ⟨e, e1, e2, e3, e4⟩ := d3 k hk
  refine ⟨e, ?_, e2, e3⟩
  rcases Nat.lt_or_ge d e with q | q
  · exact q
  · obtain ⟨w, w1, w2, -⟩ := e4 (by omega)
    omega

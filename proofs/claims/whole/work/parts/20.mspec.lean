/-! THE MODEL'S FUNCTIONS over a row g of 242 ints -/
theorem fa_lt (a b : Int32) : a < b ↔ a.toInt < b.toInt := Int32.lt_iff_toInt_lt
theorem fa_le (a b : Int32) : a ≤ b ↔ a.toInt ≤ b.toInt := Int32.le_iff_toInt_le
abbrev RT : Type := Nat → Int32
def m_bkp (g : RT) (v d : Int32) (k : Nat) : Bool := decide (g (72 + 5 * k) = v) && decide (g (73 + 5 * k) = d)
def m_find (g : RT) (v d : Int32) (bc : Nat) : Int32 := fnd (m_bkp g v d) 0 bc
theorem m_find_cases (g : RT) (v d : Int32) (bc : Nat) : m_find g v d bc = -1 ∨ ∃ k, k < bc ∧ m_find g v d bc = nI k ∧ g (72 + 5 * k) = v ∧ g (73 + 5 * k) = d := by
  rcases fnd_cases (m_bkp g v d) bc bc 0 rfl with h | ⟨j, -, h2, h3, h4⟩
  · exact Or.inl h
  · simp only [m_bkp, Bool.and_eq_true, decide_eq_true_eq] at h3
    exact Or.inr ⟨j, h2, h4, h3.1, h3.2⟩
def m_why (g : RT) (v d : Int32) (bc : Nat) : Int32 := if d ≤ g 5 then 1 else if d ≤ g 5 + 30 then (if m_find g v d bc = -1 then (if bc = 30 then 3 else 0) else 2) else 1
def m_prints (g : RT) (v d w : Int32) (bc : Nat) : RT := upd (upd (upd (upd (upd (upd g (72 + 5 * bc) v) (73 + 5 * bc) d) (74 + 5 * bc) w) (75 + 5 * bc) 0) (76 + 5 * bc) 0) 8 (nI (bc + 1))
def m_shB (k : Nat) (g : RT) : RT := upd g k (g (k + 5))
def m_drop0 (g : RT) (i bc : Nat) : RT := upd (upd g 14 (g 14 + g (75 + 5 * i))) 8 (nI (bc - 1))
def m_drop (g : RT) (i bc : Nat) : RT := fo m_shB (72 + 5 * i) (72 + 5 * (bc - 1) - (72 + 5 * i)) (m_drop0 g i bc)
def m_refund (g : RT) (pg bc : Nat) : Int32 := fo (fun k s => s + g (76 + 5 * k)) (4 * pg) (min bc (4 * pg + 4) - 4 * pg) (0 : Int32)
def m_addTrust (g : RT) (v : Nat) (d : Int32) : RT := upd g (26 + 3 * v) (clampT (g (26 + 3 * v) + d))
def m_payBack (g : RT) (c : Int32) : RT := upd (upd g 4 (g 4 - c)) 16 (g 16 + c)
def vOf (g : RT) (k : Nat) : Nat := (g (72 + 5 * k)).toNatClampNeg
def m_ret1 (g : RT) (k bc : Nat) : RT := m_drop (upd (m_addTrust g (vOf g k) (-5)) 12 (m_addTrust g (vOf g k) (-5) 12 + 1)) k bc
/-- n forecasts from place lo on leave the book, the last one first -/
def m_retL (lo : Nat) : Nat → Nat → RT → RT
  | 0, _, g => g
  | n + 1, bc, g => m_retL lo n (bc - 1) (m_ret1 g (lo + n) bc)
def m_retracts (g : RT) (pg bc : Nat) : RT := m_retL (4 * pg) (min bc (4 * pg + 4) - 4 * pg) bc (m_payBack g (m_refund g pg bc))
abbrev m_isHeld (g : RT) (f : Nat) (d : Int32) : Prop := imod (d + nI f) (g (44 + 5 * f)) = 0
def m_sell (g : RT) (k : Nat) (many price : Int32) : RT := upd (upd (upd (upd (upd g (75 + 5 * k) (g (75 + 5 * k) + many)) (76 + 5 * k) (g (76 + 5 * k) + many * price)) 13 (g 13 + many)) 15 (g 15 + many * price)) 4 (g 4 + many * price)
def m_wanted (g : RT) (k w : Nat) : Int32 := if g (25 + 3 * w) - g (75 + 5 * k) ≤ 0 then 0 else (g (25 + 3 * w) - g (75 + 5 * k)) * g (26 + 3 * w) / 100
def m_many (g : RT) (k : Nat) (st : Int32) : Int32 := if m_wanted g k (vOf g k) ≤ st then m_wanted g k (vOf g k) else st
def m_holdB (f k : Nat) (p : RT × Int32) : RT × Int32 :=
  if p.1 (72 + 5 * k) = p.1 (43 + 5 * f) then (if p.1 (73 + 5 * k) ≤ p.1 5 then p else (m_sell p.1 k (m_many p.1 k p.2) (p.1 (46 + 5 * f)), p.2 - m_many p.1 k p.2)) else p
def m_holdFair (g : RT) (f bc : Nat) : RT := (fo (m_holdB f) 0 bc (g, g (45 + 5 * f))).1
def m_allOdds (g : RT) : Int32 := g 1 + g 2 + g 3
def m_wbv (g : RT) (sd : Int32) : Int32 := imod sd (m_allOdds g)
def m_wb (g : RT) (sd : Int32) : Nat := if m_wbv g sd < g 1 then 0 else if m_wbv g sd < g 1 + g 2 then 1 else 2
theorem m_wb_lt (g : RT) (sd : Int32) : m_wb g sd < 3 := by
  unfold m_wb
  split
  · omega
  · split <;> omega
def m_sh2 (k : Nat) (g : RT) : RT := upd g k (g (k + 2))
def m_regret0 (g : RT) (mc : Nat) : RT := if mc = 10 then fo m_sh2 222 18 (upd g 9 (nI 9)) else g
def m_regret (g : RT) (v : Int32) (mc : Nat) : RT := upd (upd (upd (upd (m_regret0 g mc) (222 + 2 * (min mc 9)) (m_regret0 g mc 5)) (223 + 2 * (min mc 9)) v) 9 (nI (min mc 9 + 1))) 11 (m_regret0 g mc 11 + 1)
def m_weighMid (g : RT) (v w k mc : Nat) : RT :=
  if g (74 + 5 * k) = nI w then m_addTrust (upd g 10 (g 10 + 1)) v 5
  else m_addTrust (m_payBack (m_regret g (nI v) mc) (if w = 2 then g (76 + 5 * k) + 10 else g (76 + 5 * k) / 2)) v (if w = 2 then -20 else -10)
def m_weigh (g : RT) (v w bc mc : Nat) : RT :=
  if m_find g (nI v) (g 5) bc = -1 then g else m_drop (m_weighMid g v w (m_find g (nI v) (g 5) bc).toNatClampNeg mc) (m_find g (nI v) (g 5) bc).toNatClampNeg bc
def m_fg (g : RT) : Nat := fo (fun k b => if g (17 + k) ≤ g (17 + b) then b else k) 1 2 0
def m_ll (g : RT) : Nat := fo (fun k b => if g (17 + b) < g (17 + k) then b else k) 1 2 0
def m_oddsUp (g : RT) : RT := if 20 ≤ g (1 + m_fg g) then g else upd g (1 + m_fg g) (g (1 + m_fg g) + 1)
def m_oddsDn (g : RT) (l : Nat) : RT := if g (1 + l) ≤ 0 then g else upd g (1 + l) (g (1 + l) - 1)
def m_endYear (g : RT) : RT := upd (upd (upd (m_oddsDn (m_oddsUp g) (m_ll g)) 17 0) 18 0) 19 0
def m_bc (g : RT) : Nat := (g 8).toNatClampNeg
def m_vc (g : RT) : Nat := (g 6).toNatClampNeg
def m_fc (g : RT) : Nat := (g 7).toNatClampNeg
def m_mc (g : RT) : Nat := (g 9).toNatClampNeg
def m_fairB (f : Nat) (g : RT) : RT := if m_isHeld g f (g 5) then m_holdFair g f (m_bc g) else g
def m_drawn (g : RT) : RT := upd (upd g 0 (s_seed (g 0))) (17 + m_wb g (s_seed (g 0))) (g (17 + m_wb g (s_seed (g 0))) + 1)
def m_vilB (v : Nat) (g : RT) : RT := m_weigh (m_drawn g) v (m_wb g (s_seed (g 0))) (m_bc g) (m_mc g)
def m_dayF (g : RT) : RT := fo m_fairB 0 (m_fc g) g
def m_dayV (g : RT) : RT := fo m_vilB 0 (m_vc g) g
def m_dayY (g : RT) : RT := if imod (g 5) 12 = 0 then m_endYear g else g
def m_day (g : RT) : RT := m_dayY (m_dayV (m_dayF (upd g 5 (g 5 + 1))))
def m_dayB (_ : Nat) (g : RT) : RT := m_day g
def m_days (n : Nat) (g : RT) : RT := fo m_dayB 0 n g
-- pointwise
theorem m_sh_at (n : Nat) : ∀ (a : Nat) (g : RT) (j : Nat), fo m_shB a n g j = if a ≤ j ∧ j < a + n then g (j + 5) else g j := by
  induction n with
  | zero => intro a g j; rw [if_neg (by omega)]; rfl
  | succ n ih =>
    intro a g j
    rw [fo, ih]
    by_cases h : a + 1 ≤ j ∧ j < a + 1 + n
    · rw [if_pos h, if_pos (by omega), m_shB, pk_un (by omega)]
    · rw [if_neg h]
      by_cases e : j = a
      · subst e; rw [if_pos (by omega), m_shB, pk_us]
      · rw [if_neg (by omega), m_shB, pk_un e]
theorem m_sh2_at (n : Nat) : ∀ (a : Nat) (g : RT) (j : Nat), fo m_sh2 a n g j = if a ≤ j ∧ j < a + n then g (j + 2) else g j := by
  induction n with
  | zero => intro a g j; rw [if_neg (by omega)]; rfl
  | succ n ih =>
    intro a g j
    rw [fo, ih]
    by_cases h : a + 1 ≤ j ∧ j < a + 1 + n
    · rw [if_pos h, if_pos (by omega), m_sh2, pk_un (by omega)]
    · rw [if_neg h]
      by_cases e : j = a
      · subst e; rw [if_pos (by omega), m_sh2, pk_us]
      · rw [if_neg (by omega), m_sh2, pk_un e]
theorem m_drop_at (g : RT) (i bc j : Nat) : m_drop g i bc j = if 72 + 5 * i ≤ j ∧ j < 72 + 5 * (bc - 1) then g (j + 5) else if j = 8 then nI (bc - 1) else if j = 14 then g 14 + g (75 + 5 * i) else g j := by
  rw [m_drop, m_sh_at]
  by_cases h : 72 + 5 * i ≤ j ∧ j < 72 + 5 * (bc - 1)
  · rw [if_pos (by omega), if_pos h, m_drop0, pk_un (by omega), pk_un (by omega)]
  · rw [if_neg (by omega), if_neg h, m_drop0]
    by_cases h8 : j = 8
    · subst h8; rw [pk_us, if_pos rfl]
    · rw [pk_un h8, if_neg h8]
      by_cases h14 : j = 14
      · subst h14; rw [pk_us, if_pos rfl]
      · rw [pk_un h14, if_neg h14]
theorem m_drop_lo (g : RT) (i bc j : Nat) (h8 : j ≠ 8) (h14 : j ≠ 14) (h : j < 72 + 5 * i ∨ 72 + 5 * (bc - 1) ≤ j) : m_drop g i bc j = g j := by
  rw [m_drop_at, if_neg (by omega), if_neg h8, if_neg h14]
/-- the row is a proper state: counts; the forecasts' villages; the fairs' periods; the odds; the seed -/
def mI (g : RT) (bc vc fc mc : Nat) : Prop := (g 8 = nI bc ∧ bc ≤ 30) ∧ (g 6 = nI vc ∧ vc ≤ 6) ∧ (g 7 = nI fc ∧ fc ≤ 6) ∧ (g 9 = nI mc ∧ mc ≤ 10) ∧ (∀ k, k < bc → ∃ w, w < vc ∧ g (72 + 5 * k) = nI w) ∧ (∀ f, f < fc → ∃ p, 1 ≤ p ∧ p ≤ 12 ∧ g (44 + 5 * f) = nI p) ∧
  (∃ a b c, a ≤ 20 ∧ b ≤ 20 ∧ c ≤ 20 ∧ 1 ≤ a + b + c ∧ g 1 = nI a ∧ g 2 = nI b ∧ g 3 = nI c) ∧ (∃ s, s < 1024 ∧ g 0 = nI s)
theorem mI.of_eq {g h : RT} {bc vc fc mc : Nat} (H : mI g bc vc fc mc) (e0 : ∀ j, j < 4 → h j = g j) (e6 : h 6 = g 6) (e7 : h 7 = g 7) (e8 : h 8 = g 8) (e9 : h 9 = g 9) (ef : ∀ f, f < fc → h (44 + 5 * f) = g (44 + 5 * f)) (eb : ∀ k, k < bc → h (72 + 5 * k) = g (72 + 5 * k)) : mI h bc vc fc mc := by
  obtain ⟨⟨h1, h2⟩, ⟨h3, h4⟩, ⟨h5, h6⟩, ⟨h7, h8⟩, h9, h10, ⟨a, b, c, o1, o2, o3, o4, o5, o6, o7⟩, ⟨s, s1, s2⟩⟩ := H
  exact ⟨⟨e8.trans h1, h2⟩, ⟨e6.trans h3, h4⟩, ⟨e7.trans h5, h6⟩, ⟨e9.trans h7, h8⟩, fun k hk => by obtain ⟨w, w1, w2⟩ := h9 k hk; exact ⟨w, w1, (eb k hk).trans w2⟩, fun f hf => by obtain ⟨p, p1, p2, p3⟩ := h10 f hf; exact ⟨p, p1, p2, (ef f hf).trans p3⟩, ⟨a, b, c, o1, o2, o3, o4, (e0 1 (by omega)).trans o5, (e0 2 (by omega)).trans o6, (e0 3 (by omega)).trans o7⟩, ⟨s, s1, (e0 0 (by omega)).trans s2⟩⟩
theorem m_sell_lo (g : RT) (k : Nat) (many price : Int32) (j : Nat) (h : j ≠ 13 ∧ j ≠ 15 ∧ j ≠ 4) (h1 : j ≠ 75 + 5 * k) (h2 : j ≠ 76 + 5 * k) : m_sell g k many price j = g j := by
  rw [m_sell, pk_un h.2.2, pk_un h.2.1, pk_un h.1, pk_un h2, pk_un h1]
theorem mI.sell {g : RT} {bc vc fc mc : Nat} (H : mI g bc vc fc mc) (k : Nat) (many price : Int32) : mI (m_sell g k many price) bc vc fc mc :=
  H.of_eq (fun j hj => m_sell_lo _ _ _ _ _ (by omega) (by omega) (by omega)) (m_sell_lo _ _ _ _ _ (by omega) (by omega) (by omega)) (m_sell_lo _ _ _ _ _ (by omega) (by omega) (by omega)) (m_sell_lo _ _ _ _ _ (by omega) (by omega) (by omega)) (m_sell_lo _ _ _ _ _ (by omega) (by omega) (by omega))
    (fun f hf => by obtain ⟨-, -, ⟨-, h6⟩, -⟩ := H; exact m_sell_lo _ _ _ _ _ (by omega) (by omega) (by omega)) (fun j hj => m_sell_lo _ _ _ _ _ (by omega) (by omega) (by omega))
theorem mI.holdB {bc vc fc mc f i : Nat} {p : RT × Int32} (H : mI p.1 bc vc fc mc) : mI (m_holdB f i p).1 bc vc fc mc := by
  unfold m_holdB
  split
  · split
    · exact H
    · exact H.sell _ _ _
  · exact H
theorem mI.holdFair {g : RT} {bc vc fc mc : Nat} (H : mI g bc vc fc mc) (f n : Nat) : mI (m_holdFair g f n) bc vc fc mc :=
  fo_inv (fun p : RT × Int32 => mI p.1 bc vc fc mc) (fun _ _ h => h.holdB) n 0 (g, g (45 + 5 * f)) H
theorem mI.upd {g : RT} {bc vc fc mc : Nat} (H : mI g bc vc fc mc) (i : Nat) (x : Int32) (h : i = 4 ∨ i = 5 ∨ (10 ≤ i ∧ i ≤ 43) ∨ 222 ≤ i ∨ (∃ v, i = 26 + 3 * v ∧ v < 6)) : mI (upd g i x) bc vc fc mc := by
  have hb := H.1.2
  have hf := H.2.2.1.2
  have hi : ∀ k, k < bc → i ≠ 72 + 5 * k := fun k hk e => by
    rcases h with h | h | h | h | ⟨v, h, h'⟩ <;> omega
  exact H.of_eq (fun j hj => pk_un (by rcases h with h | h | h | h | ⟨v, h, h'⟩ <;> omega)) (pk_un (by rcases h with h | h | h | h | ⟨v, h, h'⟩ <;> omega)) (pk_un (by rcases h with h | h | h | h | ⟨v, h, h'⟩ <;> omega)) (pk_un (by rcases h with h | h | h | h | ⟨v, h, h'⟩ <;> omega)) (pk_un (by rcases h with h | h | h | h | ⟨v, h, h'⟩ <;> omega))
    (fun f hf' => pk_un (by rcases h with h | h | h | h | ⟨v, h, h'⟩ <;> omega)) (fun k hk => pk_un (fun e => hi k hk e.symm))
theorem mI.addTrust {g : RT} {bc vc fc mc : Nat} (H : mI g bc vc fc mc) (v : Nat) (d : Int32) (hv : v < 6) : mI (m_addTrust g v d) bc vc fc mc := H.upd _ _ (by omega)
theorem mI.payBack {g : RT} {bc vc fc mc : Nat} (H : mI g bc vc fc mc) (c : Int32) : mI (m_payBack g c) bc vc fc mc := (H.upd 4 _ (by omega)).upd 16 _ (by omega)
theorem mI.drop {g : RT} {bc vc fc mc : Nat} (H : mI g bc vc fc mc) (i : Nat) (hi : i < bc) : mI (m_drop g i bc) (bc - 1) vc fc mc := by
  obtain ⟨⟨h1, h2⟩, ⟨h3, h4⟩, ⟨h5, h6⟩, ⟨h7, h8⟩, h9, h10, ⟨a, b, c, o1, o2, o3, o4, o5, o6, o7⟩, ⟨s, s1, s2⟩⟩ := H
  have lo : ∀ j, j < 72 → j ≠ 8 → j ≠ 14 → m_drop g i bc j = g j := fun j a1 a2 a3 => m_drop_lo g i bc j a2 a3 (by omega)
  refine ⟨⟨by rw [m_drop_at, if_neg (by omega), if_pos rfl], by omega⟩, ⟨(lo 6 (by omega) (by omega) (by omega)).trans h3, h4⟩, ⟨(lo 7 (by omega) (by omega) (by omega)).trans h5, h6⟩, ⟨(lo 9 (by omega) (by omega) (by omega)).trans h7, h8⟩, fun k hk => ?_, fun f hf => ?_, ⟨a, b, c, o1, o2, o3, o4, (lo 1 (by omega) (by omega) (by omega)).trans o5, (lo 2 (by omega) (by omega) (by omega)).trans o6, (lo 3 (by omega) (by omega) (by omega)).trans o7⟩, ⟨s, s1, (lo 0 (by omega) (by omega) (by omega)).trans s2⟩⟩
  · rcases Nat.lt_or_ge k i with q | q
    · obtain ⟨w, w1, w2⟩ := h9 k (by omega)
      exact ⟨w, w1, (m_drop_lo g i bc _ (by omega) (by omega) (by omega)).trans w2⟩
    · obtain ⟨w, w1, w2⟩ := h9 (k + 1) (by omega)
      exact ⟨w, w1, by rw [m_drop_at, if_pos (by omega), show 72 + 5 * k + 5 = 72 + 5 * (k + 1) by omega]; exact w2⟩
  · obtain ⟨p, p1, p2, p3⟩ := h10 f hf
    exact ⟨p, p1, p2, (m_drop_lo g i bc _ (by omega) (by omega) (by omega)).trans p3⟩
theorem mI.regret {g : RT} {bc vc fc mc : Nat} (H : mI g bc vc fc mc) (v : Int32) : mI (m_regret g v mc) bc vc fc (min mc 9 + 1) := by
  have hb := H.1.2
  have hf := H.2.2.1.2
  have e0 : ∀ j, j < 222 → j ≠ 9 → m_regret0 g mc j = g j := by
    intro j h1 h2
    unfold m_regret0
    split
    · rw [m_sh2_at, if_neg (by omega), pk_un h2]
    · rfl
  have e1 : ∀ j, j < 222 → j ≠ 9 → j ≠ 11 → m_regret g v mc j = g j := by
    intro j h1 h2 h3
    rw [m_regret, pk_un h3, pk_un h2, pk_un (by omega), pk_un (by omega), e0 j h1 h2]
  obtain ⟨⟨h1, h2⟩, ⟨h3, h4⟩, ⟨h5, h6⟩, ⟨h7, h8⟩, h9, h10, ⟨a, b, c, o1, o2, o3, o4, o5, o6, o7⟩, ⟨s, s1, s2⟩⟩ := H
  refine ⟨⟨(e1 8 (by omega) (by omega) (by omega)).trans h1, h2⟩, ⟨(e1 6 (by omega) (by omega) (by omega)).trans h3, h4⟩, ⟨(e1 7 (by omega) (by omega) (by omega)).trans h5, h6⟩, ⟨by rw [m_regret, pk_un (by omega), pk_us], by omega⟩, fun k hk => ?_, fun f hf' => ?_, ⟨a, b, c, o1, o2, o3, o4, (e1 1 (by omega) (by omega) (by omega)).trans o5, (e1 2 (by omega) (by omega) (by omega)).trans o6, (e1 3 (by omega) (by omega) (by omega)).trans o7⟩, ⟨s, s1, (e1 0 (by omega) (by omega) (by omega)).trans s2⟩⟩
  · obtain ⟨w, w1, w2⟩ := h9 k hk
    exact ⟨w, w1, (e1 _ (by omega) (by omega) (by omega)).trans w2⟩
  · obtain ⟨p, p1, p2, p3⟩ := h10 f hf'
    exact ⟨p, p1, p2, (e1 _ (by omega) (by omega) (by omega)).trans p3⟩
theorem mI.weigh {g : RT} {bc vc fc mc : Nat} (H : mI g bc vc fc mc) (v w : Nat) (hv : v < 6) : ∃ b m, b ≤ bc ∧ mI (m_weigh g v w bc mc) b vc fc m := by
  unfold m_weigh
  split
  · exact ⟨bc, mc, Nat.le_refl _, H⟩
  · rcases m_find_cases g (nI v) (g 5) bc with hp | ⟨k, hk, hp, -, -⟩
    · contradiction
    · have hb := H.1.2
      rw [hp, nI_clamp (by omega)]
      unfold m_weighMid
      split
      · exact ⟨bc - 1, mc, by omega, ((H.upd 10 _ (by omega)).addTrust v 5 hv).drop k hk⟩
      · exact ⟨bc - 1, _, by omega, (((H.regret (nI v)).payBack _).addTrust v _ hv).drop k hk⟩
theorem imod_nat {a b : Nat} (ha : a < 2 ^ 31) (h0 : 0 < b) (hb : b < 2 ^ 31) : imod (nI a) (nI b) = nI (a % b) := pk_rem ha h0 hb
theorem seed_nat {s : Nat} (h : s < 1024) : s_seed (nI s) = nI ((29 * s + 11) % 1024) := by
  rw [s_seed, show (29 : Int32) * nI s = nI (29 * s) from pk_mul 29 s, show nI (29 * s) + 11 = nI (29 * s + 11) from nI_add _ 11]
  exact imod_nat (a := 29 * s + 11) (b := 1024) (by omega) (by decide) (by decide)
theorem m_wb_nat {g : RT} {a b c sd : Nat} (ha : a ≤ 20) (hb : b ≤ 20) (hc : c ≤ 20) (h1 : 1 ≤ a + b + c) (g1 : g 1 = nI a) (g2 : g 2 = nI b) (g3 : g 3 = nI c) (hs : sd < 1024) :
    m_wb g (nI sd) = if sd % (a + b + c) < a then 0 else if sd % (a + b + c) < a + b then 1 else 2 := by
  have hm := Nat.mod_lt sd (show 0 < a + b + c by omega)
  have e : m_wbv g (nI sd) = nI (sd % (a + b + c)) := by
    rw [m_wbv, m_allOdds, g1, g2, g3, nI_add, nI_add]
    exact imod_nat (by omega) (by omega) (by omega)
  rw [m_wb, e, g1, g2, nI_add]
  by_cases q1 : sd % (a + b + c) < a
  · rw [if_pos ((nI_ltI (by omega) (by omega)).mpr q1), if_pos q1]
  · rw [if_neg (fun h => q1 ((nI_ltI (by omega) (by omega)).mp h)), if_neg q1]
    by_cases q2 : sd % (a + b + c) < a + b
    · rw [if_pos ((nI_ltI (by omega) (by omega)).mpr q2), if_pos q2]
    · rw [if_neg (fun h => q2 ((nI_ltI (by omega) (by omega)).mp h)), if_neg q2]
theorem mI.drawn {g : RT} {bc vc fc mc : Nat} (H : mI g bc vc fc mc) : mI (m_drawn g) bc vc fc mc := by
  have hw := m_wb_lt g (s_seed (g 0))
  obtain ⟨hb1, hv1, hf1, hm1, h9, h10, ho, ⟨s, s1, s2⟩⟩ := id H
  have hb := H.1.2
  have e1 : m_drawn g 0 = s_seed (g 0) := by rw [m_drawn, pk_un (by omega), pk_us]
  have e2 : ∀ j, j ≠ 0 → (j < 17 ∨ 20 ≤ j) → m_drawn g j = g j := fun j a b => by rw [m_drawn, pk_un (by omega), pk_un a]
  obtain ⟨a, b, c, o1, o2, o3, o4, o5, o6, o7⟩ := ho
  refine ⟨⟨(e2 8 (by omega) (by omega)).trans hb1.1, hb1.2⟩, ⟨(e2 6 (by omega) (by omega)).trans hv1.1, hv1.2⟩, ⟨(e2 7 (by omega) (by omega)).trans hf1.1, hf1.2⟩, ⟨(e2 9 (by omega) (by omega)).trans hm1.1, hm1.2⟩, fun k hk => ?_, fun f hf => ?_, ⟨a, b, c, o1, o2, o3, o4, (e2 1 (by omega) (by omega)).trans o5, (e2 2 (by omega) (by omega)).trans o6, (e2 3 (by omega) (by omega)).trans o7⟩, ⟨(29 * s + 11) % 1024, by omega, ?_⟩⟩
  · obtain ⟨w, w1, w2⟩ := h9 k hk
    exact ⟨w, w1, (e2 _ (by omega) (by omega)).trans w2⟩
  · obtain ⟨p, p1, p2, p3⟩ := h10 f hf
    exact ⟨p, p1, p2, (e2 _ (by omega) (by omega)).trans p3⟩
  · rw [e1, s2]; exact seed_nat s1
theorem m_fg_lt (g : RT) : m_fg g < 3 := by
  simp only [m_fg, fo]
  repeat' split
  all_goals omega
theorem m_ll_lt (g : RT) : m_ll g < 3 := by
  simp only [m_ll, fo]
  repeat' split
  all_goals omega
theorem m_fg_ll (g : RT) : m_fg g ≠ m_ll g := by
  simp only [m_fg, m_ll, fo]
  by_cases h1 : g (17 + 1) ≤ g (17 + 0) <;> by_cases h2 : g (17 + 0) < g (17 + 1) <;> simp only [h1, h2, if_true, if_false] <;>
  first
  | (rw [fa_le] at h1; rw [fa_lt] at h2; omega)
  | (split <;> split <;> first | omega | (rename_i a b; rw [fa_le] at a h1; rw [fa_lt] at b h2; omega))
/-- the odds after a year: each at most 20, not all 0 -/
theorem mI.endYear {g : RT} {bc vc fc mc : Nat} (H : mI g bc vc fc mc) : mI (m_endYear g) bc vc fc mc := by
  have hm := m_fg_lt g
  have hl := m_ll_lt g
  have hne := m_fg_ll g
  have hb := H.1.2
  have hf := H.2.2.1.2
  obtain ⟨hb1, hv1, hf1, hm1, h9, h10, ⟨a, b, c, o1, o2, o3, o4, o5, o6, o7⟩, hs⟩ := id H
  -- the odds as numbers
  have od : ∀ i, i < 3 → ∃ x, x ≤ 20 ∧ g (1 + i) = nI x := by
    intro i hi
    rcases (show i = 0 ∨ i = 1 ∨ i = 2 by omega) with rfl | rfl | rfl
    · exact ⟨a, o1, o5⟩
    · exact ⟨b, o2, o6⟩
    · exact ⟨c, o3, o7⟩
  obtain ⟨xm, xm1, xm2⟩ := od _ hm
  obtain ⟨xl, xl1, xl2⟩ := od _ hl
  have up : ∃ y, y ≤ 20 ∧ 1 ≤ y ∧ m_oddsUp g (1 + m_fg g) = nI y ∧ ∀ j, j ≠ 1 + m_fg g → m_oddsUp g j = g j := by
    unfold m_oddsUp
    by_cases q : 20 ≤ g (1 + m_fg g)
    · rw [if_pos q]
      rw [xm2] at q
      have := (nI_leI (a := 20) (b := xm) (by omega) (by omega)).mp q
      exact ⟨xm, xm1, by omega, xm2, fun _ _ => rfl⟩
    · rw [if_neg q]
      rw [xm2] at q
      have : xm < 20 := Nat.lt_of_not_le fun h => q ((nI_leI (a := 20) (b := xm) (by omega) (by omega)).mpr h)
      exact ⟨xm + 1, by omega, by omega, by rw [pk_us, xm2]; exact nI_1 xm, fun j hj => pk_un hj⟩
  obtain ⟨y, y1, y2, y3, y4⟩ := up
  have e5 : m_oddsUp g (1 + m_ll g) = nI xl := (y4 _ (by omega)).trans xl2
  have dn : ∃ z, z ≤ 20 ∧ m_oddsDn (m_oddsUp g) (m_ll g) (1 + m_ll g) = nI z ∧ ∀ j, j ≠ 1 + m_ll g → m_oddsDn (m_oddsUp g) (m_ll g) j = m_oddsUp g j := by
    unfold m_oddsDn
    by_cases q : m_oddsUp g (1 + m_ll g) ≤ 0
    · rw [if_pos q]; exact ⟨xl, xl1, e5, fun _ _ => rfl⟩
    · rw [if_neg q]
      rw [e5] at q
      have : 0 < xl := Nat.pos_of_ne_zero fun h => q (by rw [h]; decide)
      exact ⟨xl - 1, by omega, by rw [pk_us, e5]; exact pk_sub (b := 1) (by omega), fun j hj => pk_un hj⟩
  obtain ⟨z, z1, z2, z3⟩ := dn
  have E : ∀ j, (j < 17 ∨ 20 ≤ j) → m_endYear g j = m_oddsDn (m_oddsUp g) (m_ll g) j := fun j hj => by rw [m_endYear, pk_un (by omega), pk_un (by omega), pk_un (by omega)]
  have F : ∀ j, (j < 17 ∨ 20 ≤ j) → (j = 0 ∨ 4 ≤ j) → m_endYear g j = g j := fun j hj h2 => by rw [E j hj, z3 j (by omega), y4 j (by omega)]
  have oe : ∀ i, i < 3 → ∃ x, x ≤ 20 ∧ m_endYear g (1 + i) = nI x ∧ (i = m_fg g → 1 ≤ x) := by
    intro i hi
    rw [E _ (by omega)]
    by_cases q : i = m_ll g
    · subst q; exact ⟨z, z1, z2, fun h => absurd h.symm hne⟩
    · rw [z3 _ (by omega)]
      by_cases q2 : i = m_fg g
      · subst q2; exact ⟨y, y1, y3, fun _ => y2⟩
      · rw [y4 _ (by omega)]
        obtain ⟨x, x1, x2⟩ := od i hi
        exact ⟨x, x1, x2, fun h => absurd h q2⟩
  obtain ⟨x0, p0, q0, r0⟩ := oe 0 (by omega)
  obtain ⟨x1, p1, q1, r1⟩ := oe 1 (by omega)
  obtain ⟨x2, p2, q2, r2⟩ := oe 2 (by omega)
  refine ⟨⟨(F 8 (by omega) (by omega)).trans hb1.1, hb1.2⟩, ⟨(F 6 (by omega) (by omega)).trans hv1.1, hv1.2⟩, ⟨(F 7 (by omega) (by omega)).trans hf1.1, hf1.2⟩, ⟨(F 9 (by omega) (by omega)).trans hm1.1, hm1.2⟩, fun k hk => ?_, fun f hf => ?_, ⟨x0, x1, x2, p0, p1, p2, ?_, q0, q1, q2⟩, ?_⟩
  · obtain ⟨w, w1, w2⟩ := h9 k hk
    exact ⟨w, w1, (F _ (by omega) (by omega)).trans w2⟩
  · obtain ⟨p, p1, p2, p3⟩ := h10 f hf
    exact ⟨p, p1, p2, (F _ (by omega) (by omega)).trans p3⟩
  · rcases (show m_fg g = 0 ∨ m_fg g = 1 ∨ m_fg g = 2 by omega) with h | h | h
    · have := r0 h.symm; omega
    · have := r1 h.symm; omega
    · have := r2 h.symm; omega
  · obtain ⟨s, s1, s2⟩ := hs
    exact ⟨s, s1, (F 0 (by omega) (by omega)).trans s2⟩
theorem mI.vilB {g : RT} {bc vc fc mc : Nat} (H : mI g bc vc fc mc) (v : Nat) (hv : v < 6) : ∃ b m, b ≤ bc ∧ mI (m_vilB v g) b vc fc m := by
  have e1 : m_bc g = bc := by rw [m_bc, H.1.1, nI_clamp (by have := H.1.2; omega)]
  have e2 : m_mc g = mc := by rw [m_mc, H.2.2.2.1.1, nI_clamp (by have := H.2.2.2.1.2; omega)]
  rw [m_vilB, e1, e2]
  exact H.drawn.weigh v _ hv
theorem m_bc_eq {g : RT} {b : Nat} (h : g 8 = nI b) (hb : b ≤ 30) : m_bc g = b := by rw [m_bc, h, nI_clamp (by omega)]
theorem m_vc_eq {g : RT} {b : Nat} (h : g 6 = nI b) (hb : b ≤ 6) : m_vc g = b := by rw [m_vc, h, nI_clamp (by omega)]
theorem m_fc_eq {g : RT} {b : Nat} (h : g 7 = nI b) (hb : b ≤ 6) : m_fc g = b := by rw [m_fc, h, nI_clamp (by omega)]
theorem m_mc_eq {g : RT} {b : Nat} (h : g 9 = nI b) (hb : b ≤ 10) : m_mc g = b := by rw [m_mc, h, nI_clamp (by omega)]
theorem m_regret0_lo (g : RT) (mc j : Nat) (h1 : j < 222) (h2 : j ≠ 9) : m_regret0 g mc j = g j := by
  unfold m_regret0
  split
  · rw [m_sh2_at, if_neg (by omega), pk_un h2]
  · rfl
theorem m_regret_lo (g : RT) (v : Int32) (mc j : Nat) (h1 : j < 222) (h2 : j ≠ 9) (h3 : j ≠ 11) : m_regret g v mc j = g j := by
  rw [m_regret, pk_un h3, pk_un h2, pk_un (by omega), pk_un (by omega), m_regret0_lo g mc j h1 h2]
theorem mI.dayF {g : RT} {bc vc fc mc : Nat} (H : mI g bc vc fc mc) : mI (m_dayF g) bc vc fc mc :=
  fo_inv (fun T : RT => mI T bc vc fc mc) (fun f T h => by
    unfold m_fairB
    split
    · exact h.holdFair f _
    · exact h) _ 0 g H
theorem mI.dayV0 {vc fc : Nat} : ∀ (n v : Nat) (g : RT) (bc mc : Nat), v + n ≤ 6 → mI g bc vc fc mc → ∃ b m, b ≤ bc ∧ mI (fo m_vilB v n g) b vc fc m
  | 0, _, _, bc, mc, _, H => ⟨bc, mc, Nat.le_refl _, H⟩
  | n + 1, v, g, bc, mc, hv, H => by
    obtain ⟨b, m, hb, h⟩ := H.vilB v (by omega)
    obtain ⟨b2, m2, hb2, h2⟩ := mI.dayV0 n (v + 1) _ b m (by omega) h
    exact ⟨b2, m2, by omega, h2⟩
theorem mI.dayV {g : RT} {bc vc fc mc : Nat} (H : mI g bc vc fc mc) : ∃ b m, b ≤ bc ∧ mI (m_dayV g) b vc fc m := by
  rw [m_dayV, m_vc_eq H.2.1.1 H.2.1.2]
  exact mI.dayV0 vc 0 g bc mc (by have := H.2.1.2; omega) H
theorem mI.day {g : RT} {bc vc fc mc : Nat} (H : mI g bc vc fc mc) : ∃ b m, b ≤ bc ∧ mI (m_day g) b vc fc m := by
  obtain ⟨b, m, hb, h⟩ := ((H.upd 5 (g 5 + 1) (by omega)).dayF).dayV
  refine ⟨b, m, hb, ?_⟩
  rw [m_day, m_dayY]
  split
  · exact h.endYear
  · exact h
theorem mI.days {vc fc : Nat} : ∀ (n i : Nat) (g : RT) (bc mc : Nat), mI g bc vc fc mc → ∃ b m, b ≤ bc ∧ mI (fo m_dayB i n g) b vc fc m
  | 0, _, _, bc, mc, H => ⟨bc, mc, Nat.le_refl _, H⟩
  | n + 1, i, g, bc, mc, H => by
    obtain ⟨b, m, hb, h⟩ := H.day
    obtain ⟨b2, m2, hb2, h2⟩ := mI.days n (i + 1) (m_day g) b m h
    exact ⟨b2, m2, by omega, h2⟩

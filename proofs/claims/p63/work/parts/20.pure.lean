/-! what the class's parts take from the parts on the model -/
/-! THE MODEL'S FUNCTIONS over a row g of 242 ints -/
theorem fa_lt (a b : Int32) : a < b ↔ a.toInt < b.toInt := Int32.lt_iff_toInt_lt
abbrev RT : Type := Nat → Int32
def m_bkp (g : RT) (v d : Int32) (k : Nat) : Bool := decide (g (72 + 5 * k) = v) && decide (g (73 + 5 * k) = d)
def m_find (g : RT) (v d : Int32) (bc : Nat) : Int32 := fnd (m_bkp g v d) 0 bc
def m_why (g : RT) (v d : Int32) (bc : Nat) : Int32 := if d ≤ g 5 then 1 else if d ≤ g 5 + 30 then (if m_find g v d bc = -1 then (if bc = 30 then 3 else 0) else 2) else 1
def m_prints (g : RT) (v d w : Int32) (bc : Nat) : RT := upd (upd (upd (upd (upd (upd g (72 + 5 * bc) v) (73 + 5 * bc) d) (74 + 5 * bc) w) (75 + 5 * bc) 0) (76 + 5 * bc) 0) 8 (nI (bc + 1))
def m_shB (k : Nat) (g : RT) : RT := upd g k (g (k + 5))
def m_drop0 (g : RT) (i bc : Nat) : RT := upd (upd g 14 (g 14 + g (75 + 5 * i))) 8 (nI (bc - 1))
def m_drop (g : RT) (i bc : Nat) : RT := fo m_shB (72 + 5 * i) (72 + 5 * (bc - 1) - (72 + 5 * i)) (m_drop0 g i bc)
def m_refund (g : RT) (pg bc : Nat) : Int32 := fo (fun k s => s + g (76 + 5 * k)) (4 * pg) (min bc (4 * pg + 4) - 4 * pg) (0 : Int32)
def m_addTrust (g : RT) (v : Nat) (d : Int32) : RT := upd g (26 + 3 * v) (clampT (g (26 + 3 * v) + d))
def m_payBack (g : RT) (c : Int32) : RT := upd (upd g 4 (g 4 - c)) 16 (g 16 + c)
def vOf (g : RT) (k : Nat) : Nat := (g (72 + 5 * k)).toNatClampNeg
def m_ret1 (g : RT) (k bc : Nat) : RT := m_drop (upd (m_addTrust g (vOf g k) (-5)) 12 (m_addTrust g (vOf g k) (-5) 12 + 1)) k bc
/-- n forecasts from place lo on leave the book, the last one first -/
def m_retL (lo : Nat) : Nat → Nat → RT → RT
  | 0, _, g => g
  | n + 1, bc, g => m_retL lo n (bc - 1) (m_ret1 g (lo + n) bc)
def m_retracts (g : RT) (pg bc : Nat) : RT := m_retL (4 * pg) (min bc (4 * pg + 4) - 4 * pg) bc (m_payBack g (m_refund g pg bc))
abbrev m_isHeld (g : RT) (f : Nat) (d : Int32) : Prop := imod (d + nI f) (g (44 + 5 * f)) = 0
def m_sell (g : RT) (k : Nat) (many price : Int32) : RT := upd (upd (upd (upd (upd g (75 + 5 * k) (g (75 + 5 * k) + many)) (76 + 5 * k) (g (76 + 5 * k) + many * price)) 13 (g 13 + many)) 15 (g 15 + many * price)) 4 (g 4 + many * price)
def m_wanted (g : RT) (k w : Nat) : Int32 := if g (25 + 3 * w) - g (75 + 5 * k) ≤ 0 then 0 else (g (25 + 3 * w) - g (75 + 5 * k)) * g (26 + 3 * w) / 100
def m_many (g : RT) (k : Nat) (st : Int32) : Int32 := if m_wanted g k (vOf g k) ≤ st then m_wanted g k (vOf g k) else st
def m_holdB (f k : Nat) (p : RT × Int32) : RT × Int32 :=
  if p.1 (72 + 5 * k) = p.1 (43 + 5 * f) then (if p.1 (73 + 5 * k) ≤ p.1 5 then p else (m_sell p.1 k (m_many p.1 k p.2) (p.1 (46 + 5 * f)), p.2 - m_many p.1 k p.2)) else p
def m_holdFair (g : RT) (f bc : Nat) : RT := (fo (m_holdB f) 0 bc (g, g (45 + 5 * f))).1
def m_allOdds (g : RT) : Int32 := g 1 + g 2 + g 3
def m_wbv (g : RT) (sd : Int32) : Int32 := imod sd (m_allOdds g)
def m_wb (g : RT) (sd : Int32) : Nat := if m_wbv g sd < g 1 then 0 else if m_wbv g sd < g 1 + g 2 then 1 else 2
def m_sh2 (k : Nat) (g : RT) : RT := upd g k (g (k + 2))
def m_regret0 (g : RT) (mc : Nat) : RT := if mc = 10 then fo m_sh2 222 18 (upd g 9 (nI 9)) else g
def m_regret (g : RT) (v : Int32) (mc : Nat) : RT := upd (upd (upd (upd (m_regret0 g mc) (222 + 2 * (min mc 9)) (m_regret0 g mc 5)) (223 + 2 * (min mc 9)) v) 9 (nI (min mc 9 + 1))) 11 (m_regret0 g mc 11 + 1)
def m_weighMid (g : RT) (v w k mc : Nat) : RT :=
  if g (74 + 5 * k) = nI w then m_addTrust (upd g 10 (g 10 + 1)) v 5
  else m_addTrust (m_payBack (m_regret g (nI v) mc) (if w = 2 then g (76 + 5 * k) + 10 else g (76 + 5 * k) / 2)) v (if w = 2 then -20 else -10)
def m_weigh (g : RT) (v w bc mc : Nat) : RT :=
  if m_find g (nI v) (g 5) bc = -1 then g else m_drop (m_weighMid g v w (m_find g (nI v) (g 5) bc).toNatClampNeg mc) (m_find g (nI v) (g 5) bc).toNatClampNeg bc
def m_fg (g : RT) : Nat := fo (fun k b => if g (17 + k) ≤ g (17 + b) then b else k) 1 2 0
def m_ll (g : RT) : Nat := fo (fun k b => if g (17 + b) < g (17 + k) then b else k) 1 2 0
def m_oddsUp (g : RT) : RT := if 20 ≤ g (1 + m_fg g) then g else upd g (1 + m_fg g) (g (1 + m_fg g) + 1)
def m_oddsDn (g : RT) (l : Nat) : RT := if g (1 + l) ≤ 0 then g else upd g (1 + l) (g (1 + l) - 1)
def m_endYear (g : RT) : RT := upd (upd (upd (m_oddsDn (m_oddsUp g) (m_ll g)) 17 0) 18 0) 19 0
def m_bc (g : RT) : Nat := (g 8).toNatClampNeg
def m_vc (g : RT) : Nat := (g 6).toNatClampNeg
def m_fc (g : RT) : Nat := (g 7).toNatClampNeg
def m_mc (g : RT) : Nat := (g 9).toNatClampNeg
def m_fairB (f : Nat) (g : RT) : RT := if m_isHeld g f (g 5) then m_holdFair g f (m_bc g) else g
def m_drawn (g : RT) : RT := upd (upd g 0 (s_seed (g 0))) (17 + m_wb g (s_seed (g 0))) (g (17 + m_wb g (s_seed (g 0))) + 1)
def m_vilB (v : Nat) (g : RT) : RT := m_weigh (m_drawn g) v (m_wb g (s_seed (g 0))) (m_bc g) (m_mc g)
def m_dayF (g : RT) : RT := fo m_fairB 0 (m_fc g) g
def m_dayV (g : RT) : RT := fo m_vilB 0 (m_vc g) g
def m_dayY (g : RT) : RT := if imod (g 5) 12 = 0 then m_endYear g else g
def m_day (g : RT) : RT := m_dayY (m_dayV (m_dayF (upd g 5 (g 5 + 1))))
def m_dayB (_ : Nat) (g : RT) : RT := m_day g
def m_days (n : Nat) (g : RT) : RT := fo m_dayB 0 n g
theorem J_lvq {x : JX} {G : gT} {ws : va_W} {k n : Nat} {lv lv' : List (Nat × Value)} {st : List Value} {pc : Nat} (h : lv = lv') (kk : J x G ws k n lv' st pc) : J x G ws k n lv st pc := h ▸ kk
/-! indices: an int that is a number below n -/
def cl (v : Int32) : Nat := v.toNatClampNeg
def inr (v : Int32) (n : Nat) : Prop := ¬ v < 0 ∧ v < nI n
theorem inr_eq {v : Int32} {n : Nat} (h : inr v n) (hn : n < 2 ^ 31) : v = nI (cl v) ∧ cl v < n := by
  obtain ⟨j, hj, rfl⟩ := nI_of h.1
  rw [cl, nI_clamp hj]
  exact ⟨rfl, (nI_ltI hj hn).mp h.2⟩
theorem inr_le {v : Int32} {n : Nat} (hn : n < 2 ^ 30) : (¬ v < 0 ∧ ¬ nI n < v) ↔ inr v (n + 1) := by
  refine and_congr_right fun _ => ?_
  rw [fa_lt, fa_lt, nI_toInt (by omega), nI_toInt (by omega)]
  omega
theorem nI_m1_toInt {n : Nat} (hn : n < 2 ^ 30) : (nI n - 1).toInt = (n : Int) - 1 := by
  rw [show (1 : Int32) = nI 1 from rfl, pk_sub_toInt (by omega) (by omega)]; rfl
theorem rng_eq {v : Int32} {a b : Nat} (hb : b < 2 ^ 30) (ha : a < 2 ^ 30) (h : ¬ v < nI a ∧ ¬ nI b < v) : v = nI (cl v) ∧ a ≤ cl v ∧ cl v ≤ b := by
  have h0 : inr v (b + 1) := (inr_le hb).mp ⟨fun q => h.1 (by rw [fa_lt] at q ⊢; rw [nI_toInt (by omega)]; rw [show ((0 : Int32)).toInt = 0 from rfl] at q; omega), h.2⟩
  obtain ⟨e, h1⟩ := inr_eq h0 (by omega)
  refine ⟨e, ?_, by omega⟩
  have h2 := h.1
  rw [e, fa_lt, nI_toInt (by omega), nI_toInt (by omega)] at h2
  omega
theorem m_named_cases (g : RT) (a w : Nat) (nm : Int32) (n : Nat) : fnd (fun i => decide (g (a + w * i) = nm)) 0 n = -1 ∨ ∃ k, k < n ∧ fnd (fun i => decide (g (a + w * i) = nm)) 0 n = nI k := by
  rcases fnd_cases (fun i => decide (g (a + w * i) = nm)) n n 0 rfl with h | ⟨j, -, h2, h3, h4⟩
  · exact Or.inl h
  · exact Or.inr ⟨j, h2, h4⟩
abbrev q_let (x : Int32) : Prop := ¬ x < 97 ∧ ¬ 122 < x
def q_nmL (f : RT) (a n : Nat) : Nat → Nat → Int32 → Int32
  | _, 0, acc => acc
  | i, k + 1, acc => if i < n then (if q_let (f (a + i)) then q_nmL f a n (i + 1) k (acc * 27 + (f (a + i) - 96)) else -1) else q_nmL f a n (i + 1) k (acc * 27)
def q_nm (f : RT) (a n : Nat) : Int32 := if 1 ≤ n ∧ n ≤ 4 then q_nmL f a n 0 4 0 else -1
def m_vn (g : RT) (nm : Int32) (vc : Nat) : Int32 := fnd (fun i => decide (g (24 + 3 * i) = nm)) 0 vc
def m_fn (g : RT) (nm : Int32) (fc : Nat) : Int32 := fnd (fun i => decide (g (42 + 5 * i) = nm)) 0 fc
def w_b (b : Int32) : Int32 := vp_nar .byte (b.toInt8.toInt32)
def w_put (b : Int32) (q : RT × Nat) : RT × Nat := (upd q.1 q.2 (w_b b), q.2 + 1)
/-- the digits of x, as the class lays them: units from the greatest on -/
def w_units : List Nat := [1000000000, 100000000, 10000000, 1000000, 100000, 10000, 1000, 100, 10, 1]
def w_dec (x : Nat) (q : RT × Nat) : RT × Nat := w_units.foldl (fun q u => if u ≤ x ∨ u = 1 then w_put (nI (48 + x / u % 10)) q else q) q
theorem w_dec_le (x : Nat) (q : RT × Nat) : (w_dec x q).2 ≤ q.2 + 10 := by
  have : ∀ (l : List Nat) (q : RT × Nat), (l.foldl (fun q u => if u ≤ x ∨ u = 1 then w_put (nI (48 + x / u % 10)) q else q) q).2 ≤ q.2 + l.length := by
    intro l
    induction l with
    | nil => intro q; exact Nat.le_refl _
    | cons a l ih =>
      intro q
      rw [List.foldl_cons]
      refine Nat.le_trans (ih _) ?_
      split <;> simp [w_put] <;> omega
  exact this w_units q
theorem J_wq {x : JX} {G : gT} {ws ws' : va_W} {k n : Nat} {lv : List (Nat × Value)} {st : List Value} {pc : Nat} (h : ws = ws') (kk : J x G ws' k n lv st pc) : J x G ws k n lv st pc := h ▸ kk

/-! WHAT THE METHODS COMPUTE: loops as recursions -/
def fo {σ : Type} (b : Nat → σ → σ) : Nat → Nat → σ → σ
  | _, 0, s => s
  | i, k + 1, s => fo b (i + 1) k (b i s)
theorem fo_step {σ : Type} {b : Nat → σ → σ} {i n : Nat} {s : σ} (h : i < n) : fo b i (n - i) s = fo b (i + 1) (n - (i + 1)) (b i s) := by
  obtain ⟨k, hk⟩ : ∃ k, n - i = k + 1 := ⟨n - i - 1, by omega⟩
  rw [hk, show n - (i + 1) = k by omega]
  rfl
theorem fo_done {σ : Type} {b : Nat → σ → σ} {i n : Nat} {s : σ} (h : n ≤ i) : fo b i (n - i) s = s := by
  rw [show n - i = 0 by omega]
  rfl
/-- the first place from i on, of k places, where p holds; -1 -/
def fnd (p : Nat → Bool) : Nat → Nat → Int32
  | _, 0 => -1
  | i, k + 1 => if p i = true then nI i else fnd p (i + 1) k
theorem fnd_hit {p : Nat → Bool} {i n : Nat} (h : i < n) (c : p i = true) : fnd p i (n - i) = nI i := by
  obtain ⟨k, hk⟩ : ∃ k, n - i = k + 1 := ⟨n - i - 1, by omega⟩
  rw [hk, fnd, if_pos c]
theorem fnd_step {p : Nat → Bool} {i n : Nat} (h : i < n) (c : p i = false) : fnd p i (n - i) = fnd p (i + 1) (n - (i + 1)) := by
  obtain ⟨k, hk⟩ : ∃ k, n - i = k + 1 := ⟨n - i - 1, by omega⟩
  rw [hk, fnd, if_neg (by rw [c]; decide), show n - (i + 1) = k by omega]
theorem fnd_done {p : Nat → Bool} {i n : Nat} (h : n ≤ i) : fnd p i (n - i) = -1 := by
  rw [show n - i = 0 by omega]
  rfl
-- the book
def bkp (S : CT) (v d : Int32) (i : Nat) : Bool := decide (S 10 i = v) && decide (S 11 i = d)
def s_placeOf (S : CT) (v d : Int32) (bc : Nat) : Int32 := fnd (bkp S v d) 0 bc
def s_label (v d : Int32) : Int32 := 10 * d + v
def s_countFor (S : CT) (v : Int32) (bc : Nat) : Int32 := fo (fun i s => if S 10 i = v then s + 1 else s) 0 bc (0 : Int32)
def s_bookAdd (S : CT) (v d w : Int32) (bc : Nat) : CT := us (us (us (us (us (us S 10 bc v) 11 bc d) 12 bc w) 13 bc 0) 14 bc 0) 16 12 (nI (bc + 1))
def s_remove (S : CT) (p e bc : Nat) : CT := us (ur (ur (ur (ur (ur S 10 (va_cpy (S 10) (S 10) e p (bc - e))) 11 (va_cpy (S 11) (S 11) e p (bc - e))) 12 (va_cpy (S 12) (S 12) e p (bc - e))) 13 (va_cpy (S 13) (S 13) e p (bc - e))) 14 (va_cpy (S 14) (S 14) e p (bc - e))) 16 12 (nI (p + (bc - e)))
def s_paidForPage (S : CT) (pg bc : Nat) : Int32 := fo (fun i s => s + S 14 i) (4 * pg) (min bc (4 * pg + 4) - 4 * pg) (0 : Int32)
def s_copies (S : CT) (bc : Nat) : Int32 := fo (fun i s => s + S 13 i) 0 bc (0 : Int32)
def s_latestDay (S : CT) (bc : Nat) : Int32 := fo (fun i s => if s < S 11 i then S 11 i else s) 0 bc (0 : Int32)
def s_bestAt (S : CT) (bc : Nat) : Nat := fo (fun i b => if S 13 i ≤ S 13 b then b else i) 1 (bc - 1) 0
def s_best (S : CT) (bc : Nat) : Int32 := if bc = 0 then -1 else nI (s_bestAt S bc)
def s_errors (S : CT) (bc : Nat) : Int32 := fo (fun i s => if ¬ s_placeOf S (S 10 i) (S 11 i) bc = nI i then s + 1 else s) 0 bc (0 : Int32)
-- villages
def s_num (f : Nat → Int32) (name : Int32) (n : Nat) : Int32 := fnd (fun i => decide (f i = name)) 0 n
def s_vadd (S : CT) (nm pe tr : Int32) (vc : Nat) : CT := us (us (us (us S 0 vc nm) 1 vc pe) 2 vc tr) 16 9 (nI (vc + 1))
def clampT (t : Int32) : Int32 := if 0 ≤ t then (if t ≤ 100 then t else 100) else 0
def s_chg (S : CT) (v ch : Int32) (vc : Nat) : CT := if ¬ v < 0 ∧ v < nI vc then us S 2 v.toNatClampNeg (clampT (S 2 v.toNatClampNeg + ch)) else S
def s_wish (S : CT) (v so : Int32) (vc : Nat) : Int32 := if ¬ v < 0 ∧ v < nI vc then (if so < S 1 v.toNatClampNeg then (S 1 v.toNatClampNeg - so) * S 2 v.toNatClampNeg / 100 else 0) else 0
def s_sumT (S : CT) (vc : Nat) : Int32 := fo (fun i s => s + S 2 i) 0 vc (0 : Int32)
theorem has_nat {v : Int32} {n : Nat} (h : ¬ v < 0 ∧ v < nI n) (hn : n < 2 ^ 31) : ∃ w, w < n ∧ v = nI w := by
  obtain ⟨j, hj, rfl⟩ := nI_of h.1
  exact ⟨j, (nI_ltI hj hn).mp h.2, rfl⟩
theorem ne0_of_lt1 {v : Int32} (h : ¬ v < 1) : ¬ v = 0 := fun e => h (by rw [e]; decide)
theorem ne0_of_ge1 {v : Int32} (h : 1 ≤ v) : ¬ v = 0 := fun e => by rw [e] at h; exact absurd h (by decide)
-- fairs
def s_fadd (S : CT) (nm vi pe st pr : Int32) (fc : Nat) : CT := us (us (us (us (us (us S 3 fc nm) 4 fc vi) 5 fc pe) 6 fc st) 7 fc pr) 16 10 (nI (fc + 1))
def imod (a b : Int32) : Int32 := a - a / b * b
def s_daysUntil (S : CT) (fr : Nat) (d : Int32) : Int32 := if 1 ≤ S 5 fr then S 5 fr - imod (d + nI fr) (S 5 fr) else -1
abbrev s_isHeld (S : CT) (fr : Nat) (d : Int32) : Prop := ¬ S 5 fr < 1 ∧ imod (d + nI fr) (S 5 fr) = 0
-- the sky
def s_sumO (S : CT) : Int32 := S 8 0 + S 8 1 + S 8 2
def s_seed (f : Int32) : Int32 := imod (29 * f + 11) 1024
def s_wfv (S : CT) (sd : Int32) : Int32 := if 1 ≤ s_sumO S then imod sd (s_sumO S) else 0
def s_wf (S : CT) (sd : Int32) : Nat := if S 8 0 ≤ s_wfv S sd then (if S 8 0 + S 8 1 ≤ s_wfv S sd then 2 else 1) else 0
theorem s_wf_lt (S : CT) (sd : Int32) : s_wf S sd < 3 := by
  unfold s_wf
  split
  · split <;> omega
  · omega
def s_drawW (S : CT) : Nat := s_wf S (s_seed (S 16 11))
theorem s_drawW_lt (S : CT) : s_drawW S < 3 := s_wf_lt _ _
def s_draw (S : CT) : CT := us (us S 16 11 (s_seed (S 16 11))) 9 (s_drawW S) (S 9 (s_drawW S) + 1)
def s_fg (f : Nat → Int32) : Nat := fo (fun i b => if f i ≤ f b then b else i) 1 2 0
def s_ll (f : Nat → Int32) : Nat := fo (fun i b => if f b < f i then b else i) 1 2 0
theorem s_fg_lt (f : Nat → Int32) : s_fg f < 3 := by
  simp only [s_fg, fo]
  repeat' split
  all_goals omega
theorem s_ll_lt (f : Nat → Int32) : s_ll f < 3 := by
  simp only [s_ll, fo]
  repeat' split
  all_goals omega
def s_oddsUp (S : CT) : CT := if 20 ≤ S 8 (s_fg (S 9)) then S else us S 8 (s_fg (S 9)) (S 8 (s_fg (S 9)) + 1)
def s_oddsDn (S : CT) (l : Nat) : CT := if S 8 l ≤ 0 then S else us S 8 l (S 8 l - 1)
def s_closeYear (S : CT) : CT := us (us (us (s_oddsDn (s_oddsUp S) (s_ll (s_oddsUp S 9))) 9 0 0) 9 1 0) 9 2 0
-- the regrets
def s_memAdd (S : CT) (v d : Int32) (mc : Nat) : CT := if 10 ≤ mc then us (us (us (ur S 15 (va_cpy (S 15) (S 15) 1 0 9)) 16 13 9) 15 9 (s_label v d)) 16 13 (nI (9 + 1)) else us (us S 15 mc (s_label v d)) 16 13 (nI (mc + 1))
-- a State: its counts as numbers
def bcO (S : CT) : Nat := (S 16 12).toNatClampNeg
def vcO (S : CT) : Nat := (S 16 9).toNatClampNeg
def fcO (S : CT) : Nat := (S 16 10).toNatClampNeg
def mcO (S : CT) : Nat := (S 16 13).toNatClampNeg
theorem fnd_cases (p : Nat → Bool) (n : Nat) : ∀ k i, n - i = k → fnd p i (n - i) = -1 ∨ ∃ j, i ≤ j ∧ j < n ∧ p j = true ∧ fnd p i (n - i) = nI j := by
  intro k
  induction k with
  | zero => intro i h; exact Or.inl (by rw [h]; rfl)
  | succ k ih =>
    intro i h
    have hi : i < n := by omega
    cases c : p i with
    | true => exact Or.inr ⟨i, Nat.le_refl _, hi, c, fnd_hit hi c⟩
    | false =>
      rw [fnd_step hi c]
      rcases ih (i + 1) (by omega) with h1 | ⟨j, h1, h2, h3, h4⟩
      · exact Or.inl h1
      · exact Or.inr ⟨j, by omega, h2, h3, h4⟩
theorem placeOf_cases (S : CT) (v d : Int32) (bc : Nat) : s_placeOf S v d bc = -1 ∨ ∃ k, k < bc ∧ s_placeOf S v d bc = nI k ∧ S 10 k = v ∧ S 11 k = d := by
  rcases fnd_cases (bkp S v d) bc bc 0 rfl with h | ⟨j, -, h2, h3, h4⟩
  · exact Or.inl h
  · simp only [bkp, Bool.and_eq_true, decide_eq_true_eq] at h3
    exact Or.inr ⟨j, h2, h4, h3.1, h3.2⟩
theorem nI_ne_m1 {k : Nat} (h : k < 2 ^ 31) : ¬ nI k = -1 := fun e => by
  have := congrArg Int32.toInt e
  rw [nI_toInt h] at this
  exact absurd this (by rw [show ((-1 : Int32)).toInt = -1 from rfl]; omega)
theorem s_chg_16 (S : CT) (v ch : Int32) (vc j : Nat) : s_chg S v ch vc 16 j = S 16 j := by
  unfold s_chg
  split <;> rfl
theorem s_closeYear_16 (S : CT) (j : Nat) : s_closeYear S 16 j = S 16 j := by
  simp only [s_closeYear, s_oddsDn, s_oddsUp]
  split <;> split <;> rfl
theorem s_memAdd_16 (S : CT) (v d : Int32) (mc j : Nat) (h : j ≠ 13) : s_memAdd S v d mc 16 j = S 16 j := by
  unfold s_memAdd
  split <;> simp [us, ur, upd, h]
theorem s_memAdd_13 (S : CT) (v d : Int32) (mc : Nat) (h : mc ≤ 10) : s_memAdd S v d mc 16 13 = nI (min (mc + 1) 10) := by
  unfold s_memAdd
  split
  · rw [show min (mc + 1) 10 = 9 + 1 by omega]; simp [us, ur, upd]
  · rw [show min (mc + 1) 10 = mc + 1 by omega]; simp [us, upd]
def s_refusal (S : CT) (v d : Int32) (bc : Nat) : Int32 := if ¬ d < S 16 0 + 1 ∧ ¬ S 16 0 + 30 < d then (if s_placeOf S v d bc = -1 then (if bc < 30 then 0 else 3) else 2) else 1
def s_canPay (S : CT) (pg bc : Nat) : Prop := ¬ S 16 1 < s_paidForPage S pg bc
def s_payBack (S : CT) (r : Int32) : CT := us (us S 16 1 (S 16 1 - r)) 16 8 (S 16 8 + r)
def s_tbBody (vc : Nat) (i : Nat) (T : CT) : CT := us (us (s_chg T (T 10 i) (-5) vc) 16 6 (s_chg T (T 10 i) (-5) vc 16 6 + s_chg T (T 10 i) (-5) vc 13 i)) 16 4 (s_chg T (T 10 i) (-5) vc 16 4 + 1)
def s_tbLoop (S : CT) (pg bc vc : Nat) : CT := fo (s_tbBody vc) (4 * pg) (min bc (4 * pg + 4) - 4 * pg) S
def s_takeBack (S : CT) (pg bc vc : Nat) : CT := s_payBack (s_remove (s_tbLoop S pg bc vc) (4 * pg) (min bc (4 * pg + 4)) bc) (s_paidForPage S pg bc)
-- a fair
def s_sellC (T : CT) (v : Int32) (i : Nat) (left : Int32) (vc : Nat) : Int32 := if s_wish T v (T 13 i) vc < left then s_wish T v (T 13 i) vc else left
def s_sellT (T : CT) (i : Nat) (cp pr : Int32) : CT := us (us (us (us (us T 13 i (T 13 i + cp)) 14 i (T 14 i + pr)) 16 5 (T 16 5 + cp)) 16 7 (T 16 7 + pr)) 16 1 (T 16 1 + pr)
def s_sellB (v : Int32) (fr vc : Nat) (i : Nat) (p : CT × Int32) : CT × Int32 :=
  if p.1 10 i = v then (if p.1 11 i ≤ p.1 16 0 then p else (s_sellT p.1 i (s_sellC p.1 v i p.2 vc) (s_sellC p.1 v i p.2 vc * p.1 7 fr), p.2 - s_sellC p.1 v i p.2 vc)) else p
def s_sellAt (S : CT) (fr bc vc : Nat) : CT := (fo (s_sellB (S 4 fr) fr vc) 0 bc (S, S 6 fr)).1
-- the weather of a village
def s_judgeMid (S : CT) (vg w k vc mc : Nat) : CT :=
  if S 12 k = nI w then s_chg (us S 16 2 (S 16 2 + 1)) (nI vg) 5 vc
  else s_chg (s_payBack (s_memAdd (us S 16 3 (S 16 3 + 1)) (nI vg) (S 16 0) mc) (if w = 2 then S 14 k + 10 else S 14 k / 2)) (nI vg) (if w = 2 then -20 else -10) vc
def s_judgeEnd (T : CT) (k bc : Nat) : CT := s_remove (us T 16 6 (T 16 6 + T 13 k)) k (k + 1) bc
def s_judge (S : CT) (vg w bc vc mc : Nat) : CT :=
  if s_placeOf S (nI vg) (S 16 0) bc = -1 then S else s_judgeEnd (s_judgeMid S vg w (s_placeOf S (nI vg) (S 16 0) bc).toNatClampNeg vc mc) (s_placeOf S (nI vg) (S 16 0) bc).toNatClampNeg bc
-- days
def s_fairB (f : Nat) (T : CT) : CT := if s_isHeld T f (T 16 0) then s_sellAt T f (bcO T) (vcO T) else T
def s_dayF (T : CT) : CT := fo s_fairB 0 (fcO T) T
def s_vilB (v : Nat) (T : CT) : CT := s_judge (s_draw T) v (s_drawW T) (bcO T) (vcO T) (mcO T)
def s_dayV (T : CT) : CT := fo s_vilB 0 (vcO T) T
def s_dayY (T : CT) : CT := if imod (T 16 0) 12 = 0 then s_closeYear T else T
def s_day (T : CT) : CT := s_dayY (s_dayV (s_dayF (us T 16 0 (T 16 0 + 1))))
def s_dayB (_ : Nat) (T : CT) : CT := s_day T
def s_days (n : Nat) (S : CT) : CT := fo s_dayB 0 n S
theorem bcO_eq {T : CT} {b : Nat} (h : T 16 12 = nI b) (hb : b ≤ 30) : bcO T = b := by rw [bcO, h, nI_clamp (by omega)]
theorem vcO_eq {T : CT} {b : Nat} (h : T 16 9 = nI b) (hb : b ≤ 6) : vcO T = b := by rw [vcO, h, nI_clamp (by omega)]
theorem fcO_eq {T : CT} {b : Nat} (h : T 16 10 = nI b) (hb : b ≤ 6) : fcO T = b := by rw [fcO, h, nI_clamp (by omega)]
theorem mcO_eq {T : CT} {b : Nat} (h : T 16 13 = nI b) (hb : b ≤ 10) : mcO T = b := by rw [mcO, h, nI_clamp (by omega)]
def s_clear (S : CT) : CT := us (us (us (us (us (us (us (us (us (us (us (us (us (us (us (us S 16 9 0) 16 10 0) 16 12 0) 16 13 0) 9 0 0) 9 1 0) 9 2 0) 16 0 0) 16 1 0) 16 2 0) 16 3 0) 16 4 0) 16 5 0) 16 6 0) 16 7 0) 16 8 0
-- what these keep
theorem s_tbBody_16 (vc i : Nat) (T : CT) (j : Nat) (h4 : j ≠ 4) (h6 : j ≠ 6) : s_tbBody vc i T 16 j = T 16 j := by
  simp [s_tbBody, us, upd, h4, h6, s_chg_16]
theorem s_sellB_16 (v : Int32) (fr vc i : Nat) (p : CT × Int32) (j : Nat) (h1 : j ≠ 1) (h5 : j ≠ 5) (h7 : j ≠ 7) : (s_sellB v fr vc i p).1 16 j = p.1 16 j := by
  unfold s_sellB
  split
  · split
    · rfl
    · simp [s_sellT, us, upd, h1, h5, h7]
  · rfl
theorem fo_inv {σ : Type} {b : Nat → σ → σ} (P : σ → Prop) (h : ∀ i s, P s → P (b i s)) : ∀ k i s, P s → P (fo b i k s)
  | 0, _, _, hs => hs
  | k + 1, i, s, hs => fo_inv P h k (i + 1) (b i s) (h i s hs)
theorem s_sellAt_16 (S : CT) (fr bc vc j : Nat) (h1 : j ≠ 1) (h5 : j ≠ 5) (h7 : j ≠ 7) : s_sellAt S fr bc vc 16 j = S 16 j :=
  fo_inv (fun p : CT × Int32 => p.1 16 j = S 16 j) (fun i p hp => (s_sellB_16 _ _ _ i p j h1 h5 h7).trans hp) bc 0 (S, S 6 fr) rfl
theorem s_tbLoop_16 (S : CT) (pg bc vc j : Nat) (h4 : j ≠ 4) (h6 : j ≠ 6) : s_tbLoop S pg bc vc 16 j = S 16 j :=
  fo_inv (fun p : CT => p 16 j = S 16 j) (fun i p hp => (s_tbBody_16 _ i p j h4 h6).trans hp) _ _ S rfl
theorem s_judgeMid_16 (S : CT) (vg w k vc mc j : Nat) (hj : j = 0 ∨ j = 9 ∨ j = 10 ∨ j = 11 ∨ j = 12) : s_judgeMid S vg w k vc mc 16 j = S 16 j := by
  have h13 : j ≠ 13 := by omega
  unfold s_judgeMid
  split
  · rw [s_chg_16]; simp [us, upd]; omega
  · rw [s_chg_16, s_payBack]
    simp only [us, if_true, upd]
    rw [if_neg (by omega), if_neg (by omega), s_memAdd_16 _ _ _ _ _ h13]
    simp [us, upd]; omega
theorem s_judgeMid_13 (S : CT) (vg w k vc mc : Nat) (hm : mc ≤ 10) (h : S 16 13 = nI mc) : ∃ m, m ≤ 10 ∧ s_judgeMid S vg w k vc mc 16 13 = nI m := by
  unfold s_judgeMid
  split
  · exact ⟨mc, hm, by rw [s_chg_16]; simpa [us, upd] using h⟩
  · refine ⟨min (mc + 1) 10, by omega, ?_⟩
    rw [s_chg_16, s_payBack]
    simp only [us, if_true, upd]
    rw [if_neg (by omega), if_neg (by omega)]
    exact s_memAdd_13 _ _ _ _ hm
theorem s_judge_16 (S : CT) (vg w bc vc mc j : Nat) (hj : j = 0 ∨ j = 9 ∨ j = 10 ∨ j = 11) : s_judge S vg w bc vc mc 16 j = S 16 j := by
  unfold s_judge
  split
  · rfl
  · have h12 : j ≠ 12 := by omega
    have h6 : j ≠ 6 := by omega
    simp only [s_judgeEnd, s_remove, us, ur, if_true, upd]
    rw [if_neg h12]
    simp only [show ¬ (16 : Nat) = 14 by decide, show ¬ (16 : Nat) = 13 by decide, show ¬ (16 : Nat) = 12 by decide, show ¬ (16 : Nat) = 11 by decide, show ¬ (16 : Nat) = 10 by decide, if_false]
    rw [upd, if_neg h6]
    exact s_judgeMid_16 _ _ _ _ _ _ _ (by omega)
theorem s_judge_12 (S : CT) (vg w bc vc mc : Nat) (hb : bc ≤ 30) (h : S 16 12 = nI bc) : ∃ b, b ≤ bc ∧ s_judge S vg w bc vc mc 16 12 = nI b := by
  unfold s_judge
  split
  · exact ⟨bc, Nat.le_refl _, h⟩
  · rcases placeOf_cases S (nI vg) (S 16 0) bc with hp | ⟨k, hk, hp, -, -⟩
    · contradiction
    · refine ⟨(s_placeOf S (nI vg) (S 16 0) bc).toNatClampNeg + (bc - ((s_placeOf S (nI vg) (S 16 0) bc).toNatClampNeg + 1)), ?_, ?_⟩
      · rw [hp, nI_clamp (by omega)]; omega
      · simp [s_judgeEnd, s_remove, us, upd]
theorem s_judge_13 (S : CT) (vg w bc vc mc : Nat) (hm : mc ≤ 10) (h : S 16 13 = nI mc) : ∃ m, m ≤ 10 ∧ s_judge S vg w bc vc mc 16 13 = nI m := by
  unfold s_judge
  split
  · exact ⟨mc, hm, h⟩
  · obtain ⟨m, h1, h2⟩ := s_judgeMid_13 S vg w (s_placeOf S (nI vg) (S 16 0) bc).toNatClampNeg vc mc hm h
    refine ⟨m, h1, ?_⟩
    simp only [s_judgeEnd, s_remove, us, ur, if_true, upd]
    simpa [upd] using h2


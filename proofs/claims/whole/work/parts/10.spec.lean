/-! WHAT THE METHODS COMPUTE: loops as recursions -/
def fo {σ : Type} (b : Nat → σ → σ) : Nat → Nat → σ → σ
  | _, 0, s => s
  | i, k + 1, s => fo b (i + 1) k (b i s)
theorem fo_step {σ : Type} {b : Nat → σ → σ} {i n : Nat} {s : σ} (h : i < n) : fo b i (n - i) s = fo b (i + 1) (n - (i + 1)) (b i s) := by
  obtain ⟨k, hk⟩ : ∃ k, n - i = k + 1 := ⟨n - i - 1, by omega⟩
  rw [hk, show n - (i + 1) = k by omega]
  rfl
theorem fo_done {σ : Type} {b : Nat → σ → σ} {i n : Nat} {s : σ} (h : n ≤ i) : fo b i (n - i) s = s := by
  rw [show n - i = 0 by omega]
  rfl
/-- the first place from i on, of k places, where p holds; -1 -/
def fnd (p : Nat → Bool) : Nat → Nat → Int32
  | _, 0 => -1
  | i, k + 1 => if p i = true then nI i else fnd p (i + 1) k
theorem fnd_hit {p : Nat → Bool} {i n : Nat} (h : i < n) (c : p i = true) : fnd p i (n - i) = nI i := by
  obtain ⟨k, hk⟩ : ∃ k, n - i = k + 1 := ⟨n - i - 1, by omega⟩
  rw [hk, fnd, if_pos c]
theorem fnd_step {p : Nat → Bool} {i n : Nat} (h : i < n) (c : p i = false) : fnd p i (n - i) = fnd p (i + 1) (n - (i + 1)) := by
  obtain ⟨k, hk⟩ : ∃ k, n - i = k + 1 := ⟨n - i - 1, by omega⟩
  rw [hk, fnd, if_neg (by rw [c]; decide), show n - (i + 1) = k by omega]
theorem fnd_done {p : Nat → Bool} {i n : Nat} (h : n ≤ i) : fnd p i (n - i) = -1 := by
  rw [show n - i = 0 by omega]
  rfl
-- the book
def bkp (S : CT) (v d : Int32) (i : Nat) : Bool := decide (S 10 i = v) && decide (S 11 i = d)
def s_placeOf (S : CT) (v d : Int32) (bc : Nat) : Int32 := fnd (bkp S v d) 0 bc
def s_label (v d : Int32) : Int32 := 10 * d + v
def s_countFor (S : CT) (v : Int32) (bc : Nat) : Int32 := fo (fun i s => if S 10 i = v then s + 1 else s) 0 bc (0 : Int32)
def s_bookAdd (S : CT) (v d w : Int32) (bc : Nat) : CT := us (us (us (us (us (us S 10 bc v) 11 bc d) 12 bc w) 13 bc 0) 14 bc 0) 16 12 (nI (bc + 1))
def s_remove (S : CT) (p e bc : Nat) : CT := us (ur (ur (ur (ur (ur S 10 (va_cpy (S 10) (S 10) e p (bc - e))) 11 (va_cpy (S 11) (S 11) e p (bc - e))) 12 (va_cpy (S 12) (S 12) e p (bc - e))) 13 (va_cpy (S 13) (S 13) e p (bc - e))) 14 (va_cpy (S 14) (S 14) e p (bc - e))) 16 12 (nI (p + (bc - e)))
def s_paidForPage (S : CT) (pg bc : Nat) : Int32 := fo (fun i s => s + S 14 i) (4 * pg) (min bc (4 * pg + 4) - 4 * pg) (0 : Int32)
def s_copies (S : CT) (bc : Nat) : Int32 := fo (fun i s => s + S 13 i) 0 bc (0 : Int32)
def s_latestDay (S : CT) (bc : Nat) : Int32 := fo (fun i s => if s < S 11 i then S 11 i else s) 0 bc (0 : Int32)
def s_bestAt (S : CT) (bc : Nat) : Nat := fo (fun i b => if S 13 i ≤ S 13 b then b else i) 1 (bc - 1) 0
def s_best (S : CT) (bc : Nat) : Int32 := if bc = 0 then -1 else nI (s_bestAt S bc)
def s_errors (S : CT) (bc : Nat) : Int32 := fo (fun i s => if ¬ s_placeOf S (S 10 i) (S 11 i) bc = nI i then s + 1 else s) 0 bc (0 : Int32)
-- villages
def s_num (f : Nat → Int32) (name : Int32) (n : Nat) : Int32 := fnd (fun i => decide (f i = name)) 0 n
def s_vadd (S : CT) (nm pe tr : Int32) (vc : Nat) : CT := us (us (us (us S 0 vc nm) 1 vc pe) 2 vc tr) 16 9 (nI (vc + 1))
def clampT (t : Int32) : Int32 := if 0 ≤ t then (if t ≤ 100 then t else 100) else 0
def s_chg (S : CT) (v ch : Int32) (vc : Nat) : CT := if ¬ v < 0 ∧ v < nI vc then us S 2 v.toNatClampNeg (clampT (S 2 v.toNatClampNeg + ch)) else S
def s_wish (S : CT) (v so : Int32) (vc : Nat) : Int32 := if ¬ v < 0 ∧ v < nI vc then (if so < S 1 v.toNatClampNeg then (S 1 v.toNatClampNeg - so) * S 2 v.toNatClampNeg / 100 else 0) else 0
def s_sumT (S : CT) (vc : Nat) : Int32 := fo (fun i s => s + S 2 i) 0 vc (0 : Int32)
theorem has_nat {v : Int32} {n : Nat} (h : ¬ v < 0 ∧ v < nI n) (hn : n < 2 ^ 31) : ∃ w, w < n ∧ v = nI w := by
  obtain ⟨j, hj, rfl⟩ := nI_of h.1
  exact ⟨j, (nI_ltI hj hn).mp h.2, rfl⟩
theorem ne0_of_lt1 {v : Int32} (h : ¬ v < 1) : ¬ v = 0 := fun e => h (by rw [e]; decide)
theorem ne0_of_ge1 {v : Int32} (h : 1 ≤ v) : ¬ v = 0 := fun e => by rw [e] at h; exact absurd h (by decide)
-- fairs
def s_fadd (S : CT) (nm vi pe st pr : Int32) (fc : Nat) : CT := us (us (us (us (us (us S 3 fc nm) 4 fc vi) 5 fc pe) 6 fc st) 7 fc pr) 16 10 (nI (fc + 1))
def imod (a b : Int32) : Int32 := a - a / b * b
def s_daysUntil (S : CT) (fr : Nat) (d : Int32) : Int32 := if 1 ≤ S 5 fr then S 5 fr - imod (d + nI fr) (S 5 fr) else -1
def s_isHeld (S : CT) (fr : Nat) (d : Int32) : Prop := ¬ S 5 fr < 1 ∧ imod (d + nI fr) (S 5 fr) = 0
-- the sky
def s_sumO (S : CT) : Int32 := S 8 0 + S 8 1 + S 8 2
def s_seed (f : Int32) : Int32 := imod (29 * f + 11) 1024
def s_wfv (S : CT) (sd : Int32) : Int32 := if 1 ≤ s_sumO S then imod sd (s_sumO S) else 0
def s_wf (S : CT) (sd : Int32) : Nat := if S 8 0 ≤ s_wfv S sd then (if S 8 0 + S 8 1 ≤ s_wfv S sd then 2 else 1) else 0
theorem s_wf_lt (S : CT) (sd : Int32) : s_wf S sd < 3 := by
  unfold s_wf
  split
  · split <;> omega
  · omega
def s_drawW (S : CT) : Nat := s_wf S (s_seed (S 16 11))
theorem s_drawW_lt (S : CT) : s_drawW S < 3 := s_wf_lt _ _
def s_draw (S : CT) : CT := us (us S 16 11 (s_seed (S 16 11))) 9 (s_drawW S) (S 9 (s_drawW S) + 1)
def s_fg (f : Nat → Int32) : Nat := fo (fun i b => if f i ≤ f b then b else i) 1 2 0
def s_ll (f : Nat → Int32) : Nat := fo (fun i b => if f b < f i then b else i) 1 2 0
theorem s_fg_lt (f : Nat → Int32) : s_fg f < 3 := by
  simp only [s_fg, fo]
  repeat' split
  all_goals omega
theorem s_ll_lt (f : Nat → Int32) : s_ll f < 3 := by
  simp only [s_ll, fo]
  repeat' split
  all_goals omega
def s_oddsUp (S : CT) : CT := if 20 ≤ S 8 (s_fg (S 9)) then S else us S 8 (s_fg (S 9)) (S 8 (s_fg (S 9)) + 1)
def s_oddsDn (S : CT) (l : Nat) : CT := if S 8 l ≤ 0 then S else us S 8 l (S 8 l - 1)
def s_closeYear (S : CT) : CT := us (us (us (s_oddsDn (s_oddsUp S) (s_ll (s_oddsUp S 9))) 9 0 0) 9 1 0) 9 2 0
-- the regrets
def s_memAdd (S : CT) (v d : Int32) (mc : Nat) : CT := if 10 ≤ mc then us (us (us (ur S 15 (va_cpy (S 15) (S 15) 1 0 9)) 16 13 9) 15 9 (s_label v d)) 16 13 (nI (9 + 1)) else us (us S 15 mc (s_label v d)) 16 13 (nI (mc + 1))

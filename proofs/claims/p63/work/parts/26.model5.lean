/-! THE PARSER OF THE MODEL: tokens as functions of the place behind the former one -/
abbrev q_dig (x : Int32) : Prop := ¬ x < 48 ∧ ¬ 57 < x
abbrev q_bl (x : Int32) : Prop := x = 32 ∨ x = 10
def q_at (f : RT) (il p : Nat) : Int32 := if p < il then f p else -1
/-- the end of a run from i on, of at most k places -/
def q_run (P : Int32 → Bool) (f : RT) : Nat → Nat → Nat
  | 0, i => i
  | k + 1, i => if P (f i) = true then q_run P f k (i + 1) else i
theorem q_run_go {P : Int32 → Bool} {f : RT} {i n : Nat} (h : i < n) (c : P (f i) = true) : q_run P f (n - i) i = q_run P f (n - (i + 1)) (i + 1) := by
  obtain ⟨k, hk⟩ : ∃ k, n - i = k + 1 := ⟨n - i - 1, by omega⟩
  rw [hk, q_run, if_pos c, show n - (i + 1) = k by omega]
theorem q_run_stop {P : Int32 → Bool} {f : RT} {i n : Nat} (c : P (f i) = false) : q_run P f (n - i) i = i := by
  cases hk : n - i with
  | zero => rfl
  | succ k => rw [q_run, if_neg (by rw [c]; decide)]
theorem q_run_end {P : Int32 → Bool} {f : RT} {i n : Nat} (h : n ≤ i) : q_run P f (n - i) i = i := by
  rw [show n - i = 0 by omega]
  rfl
theorem q_run_le (P : Int32 → Bool) (f : RT) : ∀ k i, i ≤ q_run P f k i ∧ q_run P f k i ≤ i + k
  | 0, i => ⟨Nat.le_refl _, Nat.le_refl _⟩
  | k + 1, i => by
    rw [q_run]
    split
    · have := q_run_le P f k (i + 1)
      omega
    · omega
def tS (f : RT) (il p : Nat) : Nat := q_run (fun x => decide (q_bl x)) f (il - p) p
def tK (f : RT) (il p : Nat) : Nat := if il ≤ tS f il p then 0 else if q_let (f (tS f il p)) then 3 else if q_dig (f (tS f il p)) then 2 else 1
def tE (f : RT) (il p : Nat) : Nat := if tK f il p = 0 then tS f il p else if tK f il p = 3 then q_run (fun x => decide (q_let x)) f (il - tS f il p) (tS f il p) else if tK f il p = 2 then q_run (fun x => decide (q_dig x)) f (il - tS f il p) (tS f il p) else tS f il p + 1
def q_dv (f : RT) (j : Nat) (v : Int32) : Int32 := if v ≤ 99999999 then 10 * v + f j - 48 else v
def tV (f : RT) (il p : Nat) : Int32 := if tK f il p = 2 then fo (q_dv f) (tS f il p) (tE f il p - tS f il p) 0 else 0
def tL (f : RT) (il p : Nat) : Nat := if tK f il p = 3 then tE f il p - tS f il p else 0
/-- the model with its parser's state apart: the parsed row, the token's fields, the code and the place of an error -/
def pW (M : CT) (g : RT) (p s k : Nat) (v : Int32) (n : Nat) (c pl : Int32) : CT := fun r => if r = 1 then g else if r = 8 then (fun j => if j = 4 then nI p else if j = 5 then nI s else if j = 6 then nI k else if j = 7 then v else if j = 8 then nI n else if j = 9 then c else if j = 10 then pl else M 8 j) else M r
section PW
variable {M : CT} {g : RT} {p s k : Nat} {v : Int32} {n : Nat} {c pl : Int32}
theorem pW_p (q : Nat) : us (pW M g p s k v n c pl) 8 4 (nI q) = pW M g q s k v n c pl := by
  funext r j; simp only [us, pW, upd]; by_cases h : r = 8
  · subst h; by_cases q : j = 4 <;> simp [q, upd]
  · simp [h]
theorem pW_s (q : Nat) : us (pW M g p s k v n c pl) 8 5 (nI q) = pW M g p q k v n c pl := by
  funext r j; simp only [us, pW, upd]; by_cases h : r = 8
  · subst h; by_cases q : j = 5 <;> simp [q, upd]
  · simp [h]
theorem pW_k (q : Nat) : us (pW M g p s k v n c pl) 8 6 (nI q) = pW M g p s q v n c pl := by
  funext r j; simp only [us, pW, upd]; by_cases h : r = 8
  · subst h; by_cases q : j = 6 <;> simp [q, upd]
  · simp [h]
theorem pW_v (q : Int32) : us (pW M g p s k v n c pl) 8 7 q = pW M g p s k q n c pl := by
  funext r j; simp only [us, pW, upd]; by_cases h : r = 8
  · subst h; by_cases q : j = 7 <;> simp [q, upd]
  · simp [h]
theorem pW_n (q : Nat) : us (pW M g p s k v n c pl) 8 8 (nI q) = pW M g p s k v q c pl := by
  funext r j; simp only [us, pW, upd]; by_cases h : r = 8
  · subst h; by_cases q : j = 8 <;> simp [q, upd]
  · simp [h]
theorem pW_c (q : Int32) : us (pW M g p s k v n c pl) 8 9 q = pW M g p s k v n q pl := by
  funext r j; simp only [us, pW, upd]; by_cases h : r = 8
  · subst h; by_cases q : j = 9 <;> simp [q, upd]
  · simp [h]
theorem pW_pl (q : Int32) : us (pW M g p s k v n c pl) 8 10 q = pW M g p s k v n c q := by
  funext r j; simp only [us, pW, upd]; by_cases h : r = 8
  · subst h; by_cases q : j = 10 <;> simp [q, upd]
  · simp [h]
theorem pW_g (h : RT) : ur (pW M g p s k v n c pl) 1 h = pW M h p s k v n c pl := by
  funext r j; simp only [ur, pW]; by_cases q : r = 1 <;> simp [q]
theorem pW_gi (i : Nat) (x : Int32) : us (pW M g p s k v n c pl) 1 i x = pW M (upd g i x) p s k v n c pl := by
  funext r j; simp only [us, pW, upd]; by_cases q : r = 1 <;> simp [q]
end PW
theorem pW_self {M : CT} {p s k n : Nat} (h4 : M 8 4 = nI p) (h5 : M 8 5 = nI s) (h6 : M 8 6 = nI k) (h8 : M 8 8 = nI n) : pW M (M 1) p s k (M 8 7) n (M 8 9) (M 8 10) = M := by
  funext r j
  simp only [pW]
  by_cases h : r = 1
  · subst h; simp
  · by_cases h' : r = 8
    · subst h'
      by_cases q4 : j = 4
      · subst q4; simp [h4]
      · by_cases q5 : j = 5
        · subst q5; simp [h5]
        · by_cases q6 : j = 6
          · subst q6; simp [h6]
          · by_cases q7 : j = 7
            · subst q7; simp
            · by_cases q8 : j = 8
              · subst q8; simp [h8]
              · by_cases q9 : j = 9
                · subst q9; simp
                · by_cases q10 : j = 10
                  · subst q10; simp
                  · simp [q4, q5, q6, q7, q8, q9, q10]
    · simp [h, h']

theorem q_at_lt {f : RT} {il q : Nat} {x : Int32} (h : q_at f il q = x) (hx : ¬ x = -1) : q < il ∧ f q = x := by
  unfold q_at at h
  split at h
  · exact ⟨by assumption, h⟩
  · exact absurd h.symm hx
theorem q_at_ge {f : RT} {il q : Nat} (hf : ∀ j, j < il → ¬ f j = -1) (h : q_at f il q = -1) : il ≤ q := by
  unfold q_at at h
  split at h
  · rename_i h1; exact absurd h (hf q h1)
  · omega
theorem q_at_run {P : Int32 → Bool} {f : RT} {il q : Nat} (hP : P (q_at f il q) = false) : q_run P f (il - q) q = q := by
  rcases Nat.lt_or_ge q il with h | h
  · exact q_run_stop (by rw [q_at, if_pos h] at hP; exact hP)
  · exact q_run_end h
theorem q_at_go {P : Int32 → Bool} {f : RT} {il q : Nat} (hm : P (-1) = false) (hP : P (q_at f il q) = true) : q < il ∧ P (f q) = true ∧ q_run P f (il - q) q = q_run P f (il - (q + 1)) (q + 1) := by
  rcases Nat.lt_or_ge q il with h | h
  · rw [q_at, if_pos h] at hP; exact ⟨h, hP, q_run_go h hP⟩
  · rw [q_at, if_neg (by omega), hm] at hP; exact absurd hP (by decide)
theorem tok_end {f : RT} {il p q : Nat} (hS : tS f il p = q) (h : il ≤ q) : tE f il p = q ∧ tK f il p = 0 ∧ tV f il p = 0 ∧ tL f il p = 0 := by
  have k : tK f il p = 0 := by rw [tK, hS, if_pos h]
  refine ⟨by rw [tE, k, if_pos rfl, hS], k, by rw [tV, k, if_neg (by decide)], by rw [tL, k, if_neg (by decide)]⟩
theorem tok_word {f : RT} {il p q : Nat} (hS : tS f il p = q) (h : q < il) (h3 : q_let (f q)) : tE f il p = q_run (fun x => decide (q_let x)) f (il - q) q ∧ tK f il p = 3 ∧ tV f il p = 0 ∧ tL f il p = q_run (fun x => decide (q_let x)) f (il - q) q - q := by
  have k : tK f il p = 3 := by rw [tK, hS, if_neg (by omega), if_pos h3]
  have e : tE f il p = q_run (fun x => decide (q_let x)) f (il - q) q := by rw [tE, k, if_neg (by decide), if_pos rfl, hS]
  exact ⟨e, k, by rw [tV, k, if_neg (by decide)], by rw [tL, k, if_pos rfl, e, hS]⟩
theorem tok_num {f : RT} {il p q : Nat} (hS : tS f il p = q) (h : q < il) (h3 : ¬ q_let (f q)) (h2 : q_dig (f q)) : tE f il p = q_run (fun x => decide (q_dig x)) f (il - q) q ∧ tK f il p = 2 ∧ tV f il p = fo (q_dv f) q (q_run (fun x => decide (q_dig x)) f (il - q) q - q) 0 ∧ tL f il p = 0 := by
  have k : tK f il p = 2 := by rw [tK, hS, if_neg (by omega), if_neg h3, if_pos h2]
  have e : tE f il p = q_run (fun x => decide (q_dig x)) f (il - q) q := by rw [tE, k, if_neg (by decide), if_neg (by decide), if_pos rfl, hS]
  exact ⟨e, k, by rw [tV, k, if_pos rfl, e, hS], by rw [tL, k, if_neg (by decide)]⟩
theorem tok_sym {f : RT} {il p q : Nat} (hS : tS f il p = q) (h : q < il) (h3 : ¬ q_let (f q)) (h2 : ¬ q_dig (f q)) : tE f il p = q + 1 ∧ tK f il p = 1 ∧ tV f il p = 0 ∧ tL f il p = 0 := by
  have k : tK f il p = 1 := by rw [tK, hS, if_neg (by omega), if_neg h3, if_neg h2]
  exact ⟨by rw [tE, k, if_neg (by decide), if_neg (by decide), if_neg (by decide), hS], k, by rw [tV, k, if_neg (by decide)], by rw [tL, k, if_neg (by decide)]⟩


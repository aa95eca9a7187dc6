/-! THE PARSER OF THE MODEL: tokens as functions of the place behind the former one -/
abbrev q_dig (x : Int32) : Prop := ¬ x < 48 ∧ ¬ 57 < x
abbrev q_bl (x : Int32) : Prop := x = 32 ∨ x = 10
def q_at (f : RT) (il p : Nat) : Int32 := if p < il then f p else -1
/-- the end of a run from i on, of at most k places -/
def q_run (P : Int32 → Bool) (f : RT) : Nat → Nat → Nat
  | 0, i => i
  | k + 1, i => if P (f i) = true then q_run P f k (i + 1) else i
theorem q_run_go {P : Int32 → Bool} {f : RT} {i n : Nat} (h : i < n) (c : P (f i) = true) : q_run P f (n - i) i = q_run P f (n - (i + 1)) (i + 1) := by
  obtain ⟨k, hk⟩ : ∃ k, n - i = k + 1 := ⟨n - i - 1, by omega⟩
  rw [hk, q_run, if_pos c, show n - (i + 1) = k by omega]
theorem q_run_stop {P : Int32 → Bool} {f : RT} {i n : Nat} (c : P (f i) = false) : q_run P f (n - i) i = i := by
  cases hk : n - i with
  | zero => rfl
  | succ k => rw [q_run, if_neg (by rw [c]; decide)]
theorem q_run_end {P : Int32 → Bool} {f : RT} {i n : Nat} (h : n ≤ i) : q_run P f (n - i) i = i := by
  rw [show n - i = 0 by omega]
  rfl
theorem q_run_le (P : Int32 → Bool) (f : RT) : ∀ k i, i ≤ q_run P f k i ∧ q_run P f k i ≤ i + k
  | 0, i => ⟨Nat.le_refl _, Nat.le_refl _⟩
  | k + 1, i => by
    rw [q_run]
    split
    · have := q_run_le P f k (i + 1)
      omega
    · omega
def tS (f : RT) (il p : Nat) : Nat := q_run (fun x => decide (q_bl x)) f (il - p) p
def tK (f : RT) (il p : Nat) : Nat := if il ≤ tS f il p then 0 else if q_let (f (tS f il p)) then 3 else if q_dig (f (tS f il p)) then 2 else 1
def tE (f : RT) (il p : Nat) : Nat := if tK f il p = 0 then tS f il p else if tK f il p = 3 then q_run (fun x => decide (q_let x)) f (il - tS f il p) (tS f il p) else if tK f il p = 2 then q_run (fun x => decide (q_dig x)) f (il - tS f il p) (tS f il p) else tS f il p + 1
def q_dv (f : RT) (j : Nat) (v : Int32) : Int32 := if v ≤ 99999999 then 10 * v + f j - 48 else v
def tV (f : RT) (il p : Nat) : Int32 := if tK f il p = 2 then fo (q_dv f) (tS f il p) (tE f il p - tS f il p) 0 else 0
def tL (f : RT) (il p : Nat) : Nat := if tK f il p = 3 then tE f il p - tS f il p else 0
/-- the model with its parser's state apart: the parsed row, the token's fields, the code and the place of an error -/
def pW (M : CT) (g : RT) (p s k : Nat) (v : Int32) (n : Nat) (c pl : Int32) : CT := fun r => if r = 1 then g else if r = 8 then (fun j => if j = 4 then nI p else if j = 5 then nI s else if j = 6 then nI k else if j = 7 then v else if j = 8 then nI n else if j = 9 then c else if j = 10 then pl else M 8 j) else M r
section PW
variable {M : CT} {g : RT} {p s k : Nat} {v : Int32} {n : Nat} {c pl : Int32}
theorem pW_p (q : Nat) : us (pW M g p s k v n c pl) 8 4 (nI q) = pW M g q s k v n c pl := by
  funext r j; simp only [us, pW, upd]; by_cases h : r = 8
  · subst h; by_cases q : j = 4 <;> simp [q, upd]
  · simp [h]
theorem pW_s (q : Nat) : us (pW M g p s k v n c pl) 8 5 (nI q) = pW M g p q k v n c pl := by
  funext r j; simp only [us, pW, upd]; by_cases h : r = 8
  · subst h; by_cases q : j = 5 <;> simp [q, upd]
  · simp [h]
theorem pW_k (q : Nat) : us (pW M g p s k v n c pl) 8 6 (nI q) = pW M g p s q v n c pl := by
  funext r j; simp only [us, pW, upd]; by_cases h : r = 8
  · subst h; by_cases q : j = 6 <;> simp [q, upd]
  · simp [h]
theorem pW_v (q : Int32) : us (pW M g p s k v n c pl) 8 7 q = pW M g p s k q n c pl := by
  funext r j; simp only [us, pW, upd]; by_cases h : r = 8
  · subst h; by_cases q : j = 7 <;> simp [q, upd]
  · simp [h]
theorem pW_n (q : Nat) : us (pW M g p s k v n c pl) 8 8 (nI q) = pW M g p s k v q c pl := by
  funext r j; simp only [us, pW, upd]; by_cases h : r = 8
  · subst h; by_cases q : j = 8 <;> simp [q, upd]
  · simp [h]
theorem pW_c (q : Int32) : us (pW M g p s k v n c pl) 8 9 q = pW M g p s k v n q pl := by
  funext r j; simp only [us, pW, upd]; by_cases h : r = 8
  · subst h; by_cases q : j = 9 <;> simp [q, upd]
  · simp [h]
theorem pW_pl (q : Int32) : us (pW M g p s k v n c pl) 8 10 q = pW M g p s k v n c q := by
  funext r j; simp only [us, pW, upd]; by_cases h : r = 8
  · subst h; by_cases q : j = 10 <;> simp [q, upd]
  · simp [h]
theorem pW_g (h : RT) : ur (pW M g p s k v n c pl) 1 h = pW M h p s k v n c pl := by
  funext r j; simp only [ur, pW]; by_cases q : r = 1 <;> simp [q]
theorem pW_gi (i : Nat) (x : Int32) : us (pW M g p s k v n c pl) 1 i x = pW M (upd g i x) p s k v n c pl := by
  funext r j; simp only [us, pW, upd]; by_cases q : r = 1 <;> simp [q]
end PW
theorem pW_self {M : CT} {p s k n : Nat} (h4 : M 8 4 = nI p) (h5 : M 8 5 = nI s) (h6 : M 8 6 = nI k) (h8 : M 8 8 = nI n) : pW M (M 1) p s k (M 8 7) n (M 8 9) (M 8 10) = M := by
  funext r j
  simp only [pW]
  by_cases h : r = 1
  · subst h; simp
  · by_cases h' : r = 8
    · subst h'
      by_cases q4 : j = 4
      · subst q4; simp [h4]
      · by_cases q5 : j = 5
        · subst q5; simp [h5]
        · by_cases q6 : j = 6
          · subst q6; simp [h6]
          · by_cases q7 : j = 7
            · subst q7; simp
            · by_cases q8 : j = 8
              · subst q8; simp [h8]
              · by_cases q9 : j = 9
                · subst q9; simp
                · by_cases q10 : j = 10
                  · subst q10; simp
                  · simp [q4, q5, q6, q7, q8, q9, q10]
    · simp [h, h']

set_option maxRecDepth 100000 in
set_option maxHeartbeats 4000000 in
theorem c_X11_byteAt (l : Launch) (G : gT) (m : Nat → Nat) (il : Nat) (M : CT) (g : RT) (p : Nat) (s : Nat) (k : Nat) (v : Int32) (n : Nat) (c : Int32) (pl : Int32) (i : Nat) (hil : M 8 3 = nI il) (bil : il ≤ 600) (hi : i ≤ 600) : MI l yX11_byteAt cX11_byteAt 2 (some .int) { frames := 0, cells := 0, slots := 0, locals := 0 } [.ref (m 0), .int (nI i)] G (mdW G m (pW M g p s k v n c pl)) (fun r (_ : Unit) => r = q_at (M 6) il i) (fun _ => mdW G m (pW M g p s k v n c pl)) := by
  refine jm_i (own := RX11) (by decide) rfl (Nat.le_of_ble_eq_true rfl) (fun x hl hC hR hN => ?_)
  subst hl
  refine J_iload_n hC dX11_byteAt_0 1 rfl rfl ?_
  refine J_aload_n hC dX11_byteAt_1 0 rfl rfl ?_
  refine J_get (v := .int (M 8 3)) hC wu_X11 rfl dX11_byteAt_2 0 10 (by decide) wf_X11_49 rfl rfl ?_
  refine J_topi hil ?_
  refine J_ic_geN (a := i) (b := il) (tgt := 17) hC dX11_byteAt_5 (by decide) (by omega) (by omega) (fun (c_5 : il ≤ i) => ?_) (fun (c_5 : i < il) => ?_)
  · refine J_iconst (v := (-1)) hC dX11_byteAt_17 rfl ?_
    refine J_iret hC hR dX11_byteAt_18 rfl () ?_ ?_ (by decide) (by decide)
    · rw [q_at, if_neg (by omega)]
    · rfl
  · refine J_aload_n hC dX11_byteAt_8 0 rfl rfl ?_
    refine J_get (v := .ref (m 7)) hC wu_X11 rfl dX11_byteAt_9 0 9 (by decide) wf_X11_29 rfl rfl ?_
    refine J_iload_n hC dX11_byteAt_12 1 rfl rfl ?_
    refine J_iald (i := i) (v := M 6 i) hC dX11_byteAt_13 7 rfl (by omega) (by decide) rfl ?_
    refine J_goto (tgt := 18) hC dX11_byteAt_14 (by decide) ?_
    refine J_iret hC hR dX11_byteAt_18 rfl () ?_ ?_ (by decide) (by decide)
    · rw [q_at, if_pos c_5]
    · rfl

set_option maxRecDepth 100000 in
set_option maxHeartbeats 4000000 in
theorem c_X11_check_1 (l : Launch) (G : gT) (m : Nat → Nat) (il : Nat) (M : CT) (g : RT) (p : Nat) (s : Nat) (k : Nat) (v : Int32) (n : Nat) (c : Int32) (pl : Int32) (w : Int32) (hil : M 8 3 = nI il) (bil : il ≤ 600) : MI l yX11_check cX11_check 3 (some .boolean) { frames := 0, cells := 0, slots := 0, locals := 0 } [.ref (m 0), .int 1, .int w] G (mdW G m (pW M g p s k v n c pl)) (fun r (_ : Unit) => r = if c = 0 then 1 else 0) (fun _ => mdW G m (pW M g p s k v n c pl)) := by
  refine jm_i (own := RX11) (by decide) rfl (Nat.le_of_ble_eq_true rfl) (fun x hl hC hR hN => ?_)
  subst hl
  refine J_aload_n hC dX11_check_0 0 rfl rfl ?_
  refine J_get (v := .int c) hC wu_X11 rfl dX11_check_1 0 16 (by decide) wf_X11_153 rfl rfl ?_
  refine J_if_ne (tgt := 24) hC dX11_check_4 (by decide) (fun (c_4 : ¬ c = 0) => ?_) (fun (c_4 : c = 0) => ?_)
  · refine J_aload_n hC dX11_check_24 0 rfl rfl ?_
    refine J_get (v := .int c) hC wu_X11 rfl dX11_check_25 0 16 (by decide) wf_X11_153 rfl rfl ?_
    refine J_if_ne (tgt := 35) hC dX11_check_28 (by decide) (fun (c_28 : ¬ c = 0) => ?_) (fun (c_28 : c = 0) => ?_)
    · refine J_iconst (v := 0) hC dX11_check_35 rfl ?_
      refine J_iret hC hR dX11_check_36 rfl () ?_ ?_ (by decide) (by decide)
      · rw [if_neg c_28]
      · rfl
    · refine J_iconst (v := 1) hC dX11_check_31 rfl ?_
      refine J_goto (tgt := 36) hC dX11_check_32 (by decide) ?_
      refine J_iret hC hR dX11_check_36 rfl () ?_ ?_ (by decide) (by decide)
      · rw [if_pos c_28]
      · rfl
  · refine J_iload_n hC dX11_check_7 1 rfl rfl ?_
    refine J_if_ne (tgt := 24) hC dX11_check_8 (by decide) (fun _ => ?_) (fun c => absurd c (by decide))
    refine J_aload_n hC dX11_check_24 0 rfl rfl ?_
    refine J_get (v := .int c) hC wu_X11 rfl dX11_check_25 0 16 (by decide) wf_X11_153 rfl rfl ?_
    refine J_if_ne (tgt := 35) hC dX11_check_28 (by decide) (fun (c_28 : ¬ c = 0) => ?_) (fun (c_28 : c = 0) => ?_)
    · refine J_iconst (v := 0) hC dX11_check_35 rfl ?_
      refine J_iret hC hR dX11_check_36 rfl () ?_ ?_ (by decide) (by decide)
      · rw [if_neg c_28]
      · rfl
    · refine J_iconst (v := 1) hC dX11_check_31 rfl ?_
      refine J_goto (tgt := 36) hC dX11_check_32 (by decide) ?_
      refine J_iret hC hR dX11_check_36 rfl () ?_ ?_ (by decide) (by decide)
      · rw [if_pos c_28]
      · rfl

set_option maxRecDepth 100000 in
set_option maxHeartbeats 4000000 in
theorem c_X11_check_0 (l : Launch) (G : gT) (m : Nat → Nat) (il : Nat) (M : CT) (g : RT) (p : Nat) (s : Nat) (k : Nat) (v : Int32) (n : Nat) (c : Int32) (pl : Int32) (w : Int32) (hil : M 8 3 = nI il) (bil : il ≤ 600) (hw : ¬ w = 0) : MI l yX11_check cX11_check 3 (some .boolean) { frames := 0, cells := 0, slots := 0, locals := 0 } [.ref (m 0), .int 0, .int w] G (mdW G m (pW M g p s k v n c pl)) (fun r (_ : Unit) => r = 0) (fun _ => mdW G m (pW M g p s k v n (if c = 0 then w else c) (if c = 0 then nI s else pl))) := by
  refine jm_i (own := RX11) (by decide) rfl (Nat.le_of_ble_eq_true rfl) (fun x hl hC hR hN => ?_)
  subst hl
  refine J_aload_n hC dX11_check_0 0 rfl rfl ?_
  refine J_get (v := .int c) hC wu_X11 rfl dX11_check_1 0 16 (by decide) wf_X11_153 rfl rfl ?_
  refine J_if_ne (tgt := 24) hC dX11_check_4 (by decide) (fun (c_4 : ¬ c = 0) => ?_) (fun (c_4 : c = 0) => ?_)
  · refine J_aload_n hC dX11_check_24 0 rfl rfl ?_
    refine J_get (v := .int c) hC wu_X11 rfl dX11_check_25 0 16 (by decide) wf_X11_153 rfl rfl ?_
    refine J_if_ne (tgt := 35) hC dX11_check_28 (by decide) (fun (c_28 : ¬ c = 0) => ?_) (fun (c_28 : c = 0) => ?_)
    · refine J_iconst (v := 0) hC dX11_check_35 rfl ?_
      refine J_iret hC hR dX11_check_36 rfl () ?_ ?_ (by decide) (by decide)
      · rfl
      · rw [if_neg c_4, if_neg c_4]
    · exact absurd c_28 (by assumption)
  · refine J_iload_n hC dX11_check_7 1 rfl rfl ?_
    refine J_if_ne (tgt := 24) hC dX11_check_8 (by decide) (fun c => absurd (by decide) c) (fun _ => ?_)
    refine J_aload_n hC dX11_check_11 0 rfl rfl ?_
    refine J_iload_n hC dX11_check_12 2 rfl rfl ?_
    refine J_put (ws' := mdW G m (pW M g p s k v n w pl)) hC wu_X11 rfl tyX11_ok nmX11 dX11_check_13 0 16 (by decide) wf_X11_153 rfl rfl (Nat.le_of_ble_eq_true rfl) rfl rfl rfl ?_
    refine J_aload_n hC dX11_check_16 0 rfl rfl ?_
    refine J_aload_n hC dX11_check_17 0 rfl rfl ?_
    refine J_get (v := .int (nI s)) hC wu_X11 rfl dX11_check_18 0 12 (by decide) wf_X11_165 rfl rfl ?_
    refine J_put (ws' := mdW G m (pW M g p s k v n w (nI s))) hC wu_X11 rfl tyX11_ok nmX11 dX11_check_21 0 17 (by decide) wf_X11_32 rfl rfl (Nat.le_of_ble_eq_true rfl) rfl rfl rfl ?_
    refine J_aload_n hC dX11_check_24 0 rfl rfl ?_
    refine J_get (v := .int w) hC wu_X11 rfl dX11_check_25 0 16 (by decide) wf_X11_153 rfl rfl ?_
    refine J_if_ne (tgt := 35) hC dX11_check_28 (by decide) (fun (c_28 : ¬ w = 0) => ?_) (fun (c_28 : w = 0) => ?_)
    · refine J_iconst (v := 0) hC dX11_check_35 rfl ?_
      refine J_iret hC hR dX11_check_36 rfl () ?_ ?_ (by decide) (by decide)
      · rfl
      · rw [if_pos c_4, if_pos c_4]
    · exact absurd c_28 (by assumption)

theorem q_at_lt {f : RT} {il q : Nat} {x : Int32} (h : q_at f il q = x) (hx : ¬ x = -1) : q < il ∧ f q = x := by
  unfold q_at at h
  split at h
  · exact ⟨by assumption, h⟩
  · exact absurd h.symm hx
theorem q_at_ge {f : RT} {il q : Nat} (hf : ∀ j, j < il → ¬ f j = -1) (h : q_at f il q = -1) : il ≤ q := by
  unfold q_at at h
  split at h
  · rename_i h1; exact absurd h (hf q h1)
  · omega
theorem q_at_run {P : Int32 → Bool} {f : RT} {il q : Nat} (hP : P (q_at f il q) = false) : q_run P f (il - q) q = q := by
  rcases Nat.lt_or_ge q il with h | h
  · exact q_run_stop (by rw [q_at, if_pos h] at hP; exact hP)
  · exact q_run_end h
theorem q_at_go {P : Int32 → Bool} {f : RT} {il q : Nat} (hm : P (-1) = false) (hP : P (q_at f il q) = true) : q < il ∧ P (f q) = true ∧ q_run P f (il - q) q = q_run P f (il - (q + 1)) (q + 1) := by
  rcases Nat.lt_or_ge q il with h | h
  · rw [q_at, if_pos h] at hP; exact ⟨h, hP, q_run_go h hP⟩
  · rw [q_at, if_neg (by omega), hm] at hP; exact absurd hP (by decide)
theorem tok_end {f : RT} {il p q : Nat} (hS : tS f il p = q) (h : il ≤ q) : tE f il p = q ∧ tK f il p = 0 ∧ tV f il p = 0 ∧ tL f il p = 0 := by
  have k : tK f il p = 0 := by rw [tK, hS, if_pos h]
  refine ⟨by rw [tE, k, if_pos rfl, hS], k, by rw [tV, k, if_neg (by decide)], by rw [tL, k, if_neg (by decide)]⟩
theorem tok_word {f : RT} {il p q : Nat} (hS : tS f il p = q) (h : q < il) (h3 : q_let (f q)) : tE f il p = q_run (fun x => decide (q_let x)) f (il - q) q ∧ tK f il p = 3 ∧ tV f il p = 0 ∧ tL f il p = q_run (fun x => decide (q_let x)) f (il - q) q - q := by
  have k : tK f il p = 3 := by rw [tK, hS, if_neg (by omega), if_pos h3]
  have e : tE f il p = q_run (fun x => decide (q_let x)) f (il - q) q := by rw [tE, k, if_neg (by decide), if_pos rfl, hS]
  exact ⟨e, k, by rw [tV, k, if_neg (by decide)], by rw [tL, k, if_pos rfl, e, hS]⟩
theorem tok_num {f : RT} {il p q : Nat} (hS : tS f il p = q) (h : q < il) (h3 : ¬ q_let (f q)) (h2 : q_dig (f q)) : tE f il p = q_run (fun x => decide (q_dig x)) f (il - q) q ∧ tK f il p = 2 ∧ tV f il p = fo (q_dv f) q (q_run (fun x => decide (q_dig x)) f (il - q) q - q) 0 ∧ tL f il p = 0 := by
  have k : tK f il p = 2 := by rw [tK, hS, if_neg (by omega), if_neg h3, if_pos h2]
  have e : tE f il p = q_run (fun x => decide (q_dig x)) f (il - q) q := by rw [tE, k, if_neg (by decide), if_neg (by decide), if_pos rfl, hS]
  exact ⟨e, k, by rw [tV, k, if_pos rfl, e, hS], by rw [tL, k, if_neg (by decide)]⟩
theorem tok_sym {f : RT} {il p q : Nat} (hS : tS f il p = q) (h : q < il) (h3 : ¬ q_let (f q)) (h2 : ¬ q_dig (f q)) : tE f il p = q + 1 ∧ tK f il p = 1 ∧ tV f il p = 0 ∧ tL f il p = 0 := by
  have k : tK f il p = 1 := by rw [tK, hS, if_neg (by omega), if_neg h3, if_neg h2]
  exact ⟨by rw [tE, k, if_neg (by decide), if_neg (by decide), if_neg (by decide), hS], k, by rw [tV, k, if_neg (by decide)], by rw [tL, k, if_neg (by decide)]⟩

set_option maxRecDepth 100000 in
set_option maxHeartbeats 4000000 in
theorem c_X11_advance (l : Launch) (G : gT) (m : Nat → Nat) (il : Nat) (M : CT) (g : RT) (p : Nat) (s : Nat) (k : Nat) (v : Int32) (n : Nat) (c : Int32) (pl : Int32) (hil : M 8 3 = nI il) (bil : il ≤ 600) (hp : p ≤ il) (hfi : ∀ j, j < il → ¬ M 6 j = -1) : MV l yX11_advance cX11_advance 2 { frames := 2, cells := 0, slots := 0, locals := 42 } [.ref (m 0)] G (mdW G m (pW M g p s k v n c pl)) (fun (_ : Unit) => True) (fun _ => mdW G m (pW M g (tE (M 6) il p) (tS (M 6) il p) (tK (M 6) il p) (tV (M 6) il p) (tL (M 6) il p) c pl)) := by
  refine jm_v (own := RX11) (by decide) rfl (Nat.le_of_ble_eq_true rfl) (fun x hl hC hR hN => ?_)
  subst hl
  have key : ∀ fuel : Nat, (∀ (q : Nat), (p ≤ q ∧ q ≤ il) → (tS (M 6) il p = q_run (fun x => decide (q_bl x)) (M 6) (il - q) q) → 10000 - q < fuel → J x G (mdW G m (pW M g q s k v n c pl)) 0 0 [(0, .ref (m 0))] [] 0) ∧ (∀ (q : Nat) (t : Nat), (q ≤ il) → (tS (M 6) il p = q) → (q < il ∧ q_let (M 6 q)) → (q + t ≤ il) → (q_run (fun x => decide (q_let x)) (M 6) (il - q) q = q_run (fun x => decide (q_let x)) (M 6) (il - (q + t)) (q + t)) → 8000 - t < fuel → J x G (mdW G m (pW M g (q + t) q 3 0 t c pl)) 0 0 [(0, .ref (m 0)), (1, .int (q_at (M 6) il q))] [] 91) ∧ (∀ (q : Nat) (e : Nat) (val : Int32), (q ≤ il) → (tS (M 6) il p = q) → (q < il ∧ ¬ q_let (M 6 q) ∧ q_dig (M 6 q)) → (q ≤ e ∧ e ≤ il) → (q_run (fun x => decide (q_dig x)) (M 6) (il - q) q = q_run (fun x => decide (q_dig x)) (M 6) (il - e) e) → (fo (q_dv (M 6)) q (q_run (fun x => decide (q_dig x)) (M 6) (il - q) q - q) 0 = fo (q_dv (M 6)) e (q_run (fun x => decide (q_dig x)) (M 6) (il - q) q - e) val) → 7000 - e < fuel → J x G (mdW G m (pW M g e q 2 val 0 c pl)) 0 0 [(0, .ref (m 0)), (1, .int (q_at (M 6) il q))] [] 144) := by
    intro fuel
    induction fuel with
    | zero => exact ⟨fun _ _ _ h => absurd h (Nat.not_lt_zero _), fun _ _ _ _ _ _ _ h => absurd h (Nat.not_lt_zero _), fun _ _ _ _ _ _ _ _ _ h => absurd h (Nat.not_lt_zero _)⟩
    | succ fuel ih =>
      refine ⟨?_, ?_, ?_⟩
      · intro q hq hI hmu
        refine J_aload_n hC dX11_advance_0 0 rfl rfl ?_
        refine J_aload_n hC dX11_advance_1 0 rfl rfl ?_
        refine J_get (v := .int (nI q)) hC wu_X11 rfl dX11_advance_2 0 11 (by decide) wf_X11_159 rfl rfl ?_
        refine J_callVi hC dX11_advance_5 wl_X11_162 yi_X11_byteAt (c_X11_byteAt _ G m il M g q s k v n c pl q (hil) (bil) (by omega)) rfl rfl 0 11 rfl rfl ⟨Nat.le_of_ble_eq_true rfl, Nat.le_of_ble_eq_true rfl⟩ (Nat.le_of_ble_eq_true rfl) (Nat.le_of_ble_eq_true rfl) (Nat.le_of_ble_eq_true rfl) (fun r u h_5 => ?_)
        subst h_5
        refine J_bipush (v := 32) hC dX11_advance_8 (by decide +kernel) ?_
        refine J_ic_eq (tgt := 26) hC dX11_advance_10 (by decide) (fun (c_10 : (q_at (M 6) il q) = 32) => ?_) (fun (c_10 : ¬ (q_at (M 6) il q) = 32) => ?_)
        · have hgo := q_at_go (P := (fun x => decide (q_bl x))) (f := M 6) (il := il) (q := q) (by decide) (decide_eq_true (Or.inl c_10))
          refine J_aload_n hC dX11_advance_26 0 rfl rfl ?_
          refine J_dup hC dX11_advance_27 rfl ?_
          refine J_get (v := .int (nI q)) hC wu_X11 rfl dX11_advance_28 0 11 (by decide) wf_X11_159 rfl rfl ?_
          refine J_iconst (v := 1) hC dX11_advance_31 rfl ?_
          refine J_iadd (v := nI (q + 1)) hC dX11_advance_32 (nI_add q 1) ?_
          refine J_put (ws' := mdW G m (pW M g (q + 1) s k v n c pl)) hC wu_X11 rfl tyX11_ok nmX11 dX11_advance_33 0 11 (by decide) wf_X11_159 rfl rfl (Nat.le_of_ble_eq_true rfl) rfl rfl rfl ?_
          refine J_goto (tgt := 0) hC dX11_advance_36 (by decide) ?_
          exact ih.1 (q + 1) (by have := hgo.1; omega) (hI.trans hgo.2.2) (by omega)
        · refine J_aload_n hC dX11_advance_13 0 rfl rfl ?_
          refine J_aload_n hC dX11_advance_14 0 rfl rfl ?_
          refine J_get (v := .int (nI q)) hC wu_X11 rfl dX11_advance_15 0 11 (by decide) wf_X11_159 rfl rfl ?_
          refine J_callVi hC dX11_advance_18 wl_X11_162 yi_X11_byteAt (c_X11_byteAt _ G m il M g q s k v n c pl q (hil) (bil) (by omega)) rfl rfl 0 11 rfl rfl ⟨Nat.le_of_ble_eq_true rfl, Nat.le_of_ble_eq_true rfl⟩ (Nat.le_of_ble_eq_true rfl) (Nat.le_of_ble_eq_true rfl) (Nat.le_of_ble_eq_true rfl) (fun r u h_18 => ?_)
          subst h_18
          refine J_bipush (v := 10) hC dX11_advance_21 (by decide +kernel) ?_
          refine J_ic_ne (tgt := 39) hC dX11_advance_23 (by decide) (fun (c_23 : ¬ (q_at (M 6) il q) = 10) => ?_) (fun (c_23 : (q_at (M 6) il q) = 10) => ?_)
          · have hSq : tS (M 6) il p = q := hI.trans (q_at_run (P := (fun x => decide (q_bl x))) (decide_eq_false (fun h => h.elim c_10 c_23)))
            refine J_aload_n hC dX11_advance_39 0 rfl rfl ?_
            refine J_aload_n hC dX11_advance_40 0 rfl rfl ?_
            refine J_get (v := .int (nI q)) hC wu_X11 rfl dX11_advance_41 0 11 (by decide) wf_X11_159 rfl rfl ?_
            refine J_put (ws' := mdW G m (pW M g q q k v n c pl)) hC wu_X11 rfl tyX11_ok nmX11 dX11_advance_44 0 12 (by decide) wf_X11_165 rfl rfl (Nat.le_of_ble_eq_true rfl) rfl rfl rfl ?_
            refine J_aload_n hC dX11_advance_47 0 rfl rfl ?_
            refine J_iconst (v := 0) hC dX11_advance_48 rfl ?_
            refine J_put (ws' := mdW G m (pW M g q q k v 0 c pl)) hC wu_X11 rfl tyX11_ok nmX11 dX11_advance_49 0 15 (by decide) wf_X11_168 rfl rfl (Nat.le_of_ble_eq_true rfl) rfl rfl rfl ?_
            refine J_aload_n hC dX11_advance_52 0 rfl rfl ?_
            refine J_iconst (v := 0) hC dX11_advance_53 rfl ?_
            refine J_put (ws' := mdW G m (pW M g q q k 0 0 c pl)) hC wu_X11 rfl tyX11_ok nmX11 dX11_advance_54 0 14 (by decide) wf_X11_171 rfl rfl (Nat.le_of_ble_eq_true rfl) rfl rfl rfl ?_
            refine J_aload_n hC dX11_advance_57 0 rfl rfl ?_
            refine J_aload_n hC dX11_advance_58 0 rfl rfl ?_
            refine J_get (v := .int (nI q)) hC wu_X11 rfl dX11_advance_59 0 11 (by decide) wf_X11_159 rfl rfl ?_
            refine J_callVi hC dX11_advance_62 wl_X11_162 yi_X11_byteAt (c_X11_byteAt _ G m il M g q q k 0 0 c pl q (hil) (bil) (by omega)) rfl rfl 0 11 rfl rfl ⟨Nat.le_of_ble_eq_true rfl, Nat.le_of_ble_eq_true rfl⟩ (Nat.le_of_ble_eq_true rfl) (Nat.le_of_ble_eq_true rfl) (Nat.le_of_ble_eq_true rfl) (fun r u h_62 => ?_)
            subst h_62
            refine J_istore_n hC [(1, .int (q_at (M 6) il q)), (0, .ref (m 0))] dX11_advance_65 rfl (by decide) rfl ?_
            refine J_iload_n hC dX11_advance_66 0 rfl rfl ?_
            refine J_iconst (v := (-1)) hC dX11_advance_67 rfl ?_
            refine J_ic_ne (tgt := 79) hC dX11_advance_68 (by decide) (fun (c_68 : ¬ (q_at (M 6) il q) = (-1)) => ?_) (fun (c_68 : (q_at (M 6) il q) = (-1)) => ?_)
            · refine J_iload_n hC dX11_advance_79 0 rfl rfl ?_
              refine J_callSi hC dX11_advance_80 wl_X11_177 wi_X11 yi_X11_isLetter (c_X11_isLetter _ G (mdW G m (pW M g q q k 0 0 c pl)) (q_at (M 6) il q)) rfl rfl ⟨Nat.le_of_ble_eq_true rfl, Nat.le_of_ble_eq_true rfl⟩ (Nat.le_of_ble_eq_true rfl) (Nat.le_of_ble_eq_true rfl) (Nat.le_of_ble_eq_true rfl) (fun r u h_80 => ?_)
              rcases h_80 with ⟨rfl, c_80⟩ | ⟨rfl, c_80⟩
              · refine J_if_eq (tgt := 128) hC dX11_advance_83 (by decide) (fun c => absurd c (by decide)) (fun _ => ?_)
                have hql := q_at_lt rfl c_68
                have hlq : q < il ∧ q_let (M 6 q) := ⟨hql.1, by rw [hql.2]; exact c_80⟩
                refine J_aload_n hC dX11_advance_86 1 rfl rfl ?_
                refine J_iconst (v := 3) hC dX11_advance_87 rfl ?_
                refine J_put (ws' := mdW G m (pW M g q q 3 0 0 c pl)) hC wu_X11 rfl tyX11_ok nmX11 dX11_advance_88 0 13 (by decide) wf_X11_174 rfl rfl (Nat.le_of_ble_eq_true rfl) rfl rfl rfl ?_
                refine J_lv (lv' := [(0, .ref (m 0)), (1, .int (q_at (M 6) il q))]) [1, 0] rfl ?_
                exact ih.2.1 q 0 (by omega) (hSq) (hlq) (by omega) (rfl) (by omega)
              · refine J_if_eq (tgt := 128) hC dX11_advance_83 (by decide) (fun _ => ?_) (fun c => absurd (by decide) c)
                refine J_iload_n hC dX11_advance_128 0 rfl rfl ?_
                refine J_bipush (v := 48) hC dX11_advance_129 (by decide +kernel) ?_
                refine J_bipush (v := 57) hC dX11_advance_131 (by decide +kernel) ?_
                refine J_callSi hC dX11_advance_133 wl_X11_156 wi_X11 yi_X11_isBetween (c_X11_isBetween _ G (mdW G m (pW M g q q k 0 0 c pl)) (q_at (M 6) il q) 48 57) rfl rfl ⟨Nat.le_of_ble_eq_true rfl, Nat.le_of_ble_eq_true rfl⟩ (Nat.le_of_ble_eq_true rfl) (Nat.le_of_ble_eq_true rfl) (Nat.le_of_ble_eq_true rfl) (fun r u h_133 => ?_)
                rcases h_133 with ⟨rfl, c_133⟩ | ⟨rfl, c_133⟩
                · refine J_if_eq (tgt := 214) hC dX11_advance_136 (by decide) (fun c => absurd c (by decide)) (fun _ => ?_)
                  have hql := q_at_lt rfl c_68
                  have hlq : q < il ∧ ¬ q_let (M 6 q) ∧ q_dig (M 6 q) := ⟨hql.1, by rw [hql.2]; exact ⟨c_80, c_133⟩⟩
                  refine J_aload_n hC dX11_advance_139 1 rfl rfl ?_
                  refine J_iconst (v := 2) hC dX11_advance_140 rfl ?_
                  refine J_put (ws' := mdW G m (pW M g q q 2 0 0 c pl)) hC wu_X11 rfl tyX11_ok nmX11 dX11_advance_141 0 13 (by decide) wf_X11_174 rfl rfl (Nat.le_of_ble_eq_true rfl) rfl rfl rfl ?_
                  refine J_lv (lv' := [(0, .ref (m 0)), (1, .int (q_at (M 6) il q))]) [1, 0] rfl ?_
                  exact ih.2.2 q q 0 (by omega) (hSq) (hlq) (by omega) (rfl) (rfl) (by omega)
                · refine J_if_eq (tgt := 214) hC dX11_advance_136 (by decide) (fun _ => ?_) (fun c => absurd (by decide) c)
                  refine J_aload_n hC dX11_advance_214 1 rfl rfl ?_
                  refine J_iconst (v := 1) hC dX11_advance_215 rfl ?_
                  refine J_put (ws' := mdW G m (pW M g q q 1 0 0 c pl)) hC wu_X11 rfl tyX11_ok nmX11 dX11_advance_216 0 13 (by decide) wf_X11_174 rfl rfl (Nat.le_of_ble_eq_true rfl) rfl rfl rfl ?_
                  refine J_aload_n hC dX11_advance_219 1 rfl rfl ?_
                  refine J_dup hC dX11_advance_220 rfl ?_
                  refine J_get (v := .int (nI q)) hC wu_X11 rfl dX11_advance_221 0 11 (by decide) wf_X11_159 rfl rfl ?_
                  refine J_iconst (v := 1) hC dX11_advance_224 rfl ?_
                  refine J_iadd (v := nI (q + 1)) hC dX11_advance_225 (nI_add q 1) ?_
                  refine J_put (ws' := mdW G m (pW M g (q + 1) q 1 0 0 c pl)) hC wu_X11 rfl tyX11_ok nmX11 dX11_advance_226 0 11 (by decide) wf_X11_159 rfl rfl (Nat.le_of_ble_eq_true rfl) rfl rfl rfl ?_
                  refine J_vret hC hR dX11_advance_229 () ?_ ?_ (by decide) (by decide)
                  · trivial
                  · have hql := q_at_lt rfl c_68
                    obtain ⟨e1, e2, e3, e4⟩ := tok_sym hSq hql.1 (by rw [hql.2]; exact c_80) (by rw [hql.2]; exact c_133)
                    rw [hSq, e1, e2, e3, e4]
            · refine J_aload_n hC dX11_advance_71 1 rfl rfl ?_
              refine J_iconst (v := 0) hC dX11_advance_72 rfl ?_
              refine J_put (ws' := mdW G m (pW M g q q 0 0 0 c pl)) hC wu_X11 rfl tyX11_ok nmX11 dX11_advance_73 0 13 (by decide) wf_X11_174 rfl rfl (Nat.le_of_ble_eq_true rfl) rfl rfl rfl ?_
              refine J_goto (tgt := 229) hC dX11_advance_76 (by decide) ?_
              refine J_vret hC hR dX11_advance_229 () ?_ ?_ (by decide) (by decide)
              · trivial
              · obtain ⟨e1, e2, e3, e4⟩ := tok_end hSq (q_at_ge hfi c_68)
                rw [hSq, e1, e2, e3, e4]
          · have hgo := q_at_go (P := (fun x => decide (q_bl x))) (f := M 6) (il := il) (q := q) (by decide) (decide_eq_true (Or.inr c_23))
            refine J_aload_n hC dX11_advance_26 0 rfl rfl ?_
            refine J_dup hC dX11_advance_27 rfl ?_
            refine J_get (v := .int (nI q)) hC wu_X11 rfl dX11_advance_28 0 11 (by decide) wf_X11_159 rfl rfl ?_
            refine J_iconst (v := 1) hC dX11_advance_31 rfl ?_
            refine J_iadd (v := nI (q + 1)) hC dX11_advance_32 (nI_add q 1) ?_
            refine J_put (ws' := mdW G m (pW M g (q + 1) s k v n c pl)) hC wu_X11 rfl tyX11_ok nmX11 dX11_advance_33 0 11 (by decide) wf_X11_159 rfl rfl (Nat.le_of_ble_eq_true rfl) rfl rfl rfl ?_
            refine J_goto (tgt := 0) hC dX11_advance_36 (by decide) ?_
            exact ih.1 (q + 1) (by have := hgo.1; omega) (hI.trans hgo.2.2) (by omega)
      · intro q t hq hS hl ht hI hmu
        refine J_aload_n hC dX11_advance_91 0 rfl rfl ?_
        refine J_aload_n hC dX11_advance_92 0 rfl rfl ?_
        refine J_get (v := .int (nI (q + t))) hC wu_X11 rfl dX11_advance_93 0 11 (by decide) wf_X11_159 rfl rfl ?_
        refine J_callVi hC dX11_advance_96 wl_X11_162 yi_X11_byteAt (c_X11_byteAt _ G m il M g (q + t) q 3 0 t c pl (q + t) (hil) (bil) (by omega)) rfl rfl 0 11 rfl rfl ⟨Nat.le_of_ble_eq_true rfl, Nat.le_of_ble_eq_true rfl⟩ (Nat.le_of_ble_eq_true rfl) (Nat.le_of_ble_eq_true rfl) (Nat.le_of_ble_eq_true rfl) (fun r u h_96 => ?_)
        subst h_96
        refine J_callSi hC dX11_advance_99 wl_X11_177 wi_X11 yi_X11_isLetter (c_X11_isLetter _ G (mdW G m (pW M g (q + t) q 3 0 t c pl)) (q_at (M 6) il (q + t))) rfl rfl ⟨Nat.le_of_ble_eq_true rfl, Nat.le_of_ble_eq_true rfl⟩ (Nat.le_of_ble_eq_true rfl) (Nat.le_of_ble_eq_true rfl) (Nat.le_of_ble_eq_true rfl) (fun r u h_99 => ?_)
        rcases h_99 with ⟨rfl, c_99⟩ | ⟨rfl, c_99⟩
        · refine J_if_eq (tgt := 229) hC dX11_advance_102 (by decide) (fun c => absurd c (by decide)) (fun _ => ?_)
          have hgo := q_at_go (P := (fun x => decide (q_let x))) (f := M 6) (il := il) (q := q + t) (by decide) (decide_eq_true c_99)
          refine J_aload_n hC dX11_advance_105 0 rfl rfl ?_
          refine J_dup hC dX11_advance_106 rfl ?_
          refine J_get (v := .int (nI t)) hC wu_X11 rfl dX11_advance_107 0 15 (by decide) wf_X11_168 rfl rfl ?_
          refine J_iconst (v := 1) hC dX11_advance_110 rfl ?_
          refine J_iadd (v := nI (t + 1)) hC dX11_advance_111 (nI_add t 1) ?_
          refine J_put (ws' := mdW G m (pW M g (q + t) q 3 0 (t + 1) c pl)) hC wu_X11 rfl tyX11_ok nmX11 dX11_advance_112 0 15 (by decide) wf_X11_168 rfl rfl (Nat.le_of_ble_eq_true rfl) rfl rfl rfl ?_
          refine J_aload_n hC dX11_advance_115 0 rfl rfl ?_
          refine J_dup hC dX11_advance_116 rfl ?_
          refine J_get (v := .int (nI (q + t))) hC wu_X11 rfl dX11_advance_117 0 11 (by decide) wf_X11_159 rfl rfl ?_
          refine J_iconst (v := 1) hC dX11_advance_120 rfl ?_
          refine J_iadd (v := nI ((q + t) + 1)) hC dX11_advance_121 (nI_add (q + t) 1) ?_
          refine J_put (ws' := mdW G m (pW M g ((q + t) + 1) q 3 0 (t + 1) c pl)) hC wu_X11 rfl tyX11_ok nmX11 dX11_advance_122 0 11 (by decide) wf_X11_159 rfl rfl (Nat.le_of_ble_eq_true rfl) rfl rfl rfl ?_
          refine J_goto (tgt := 91) hC dX11_advance_125 (by decide) ?_
          exact ih.2.1 q (t + 1) (by omega) (hS) (hl) (by have := hgo.1; omega) (hI.trans (hgo.2.2.trans rfl)) (by omega)
        · refine J_if_eq (tgt := 229) hC dX11_advance_102 (by decide) (fun _ => ?_) (fun c => absurd (by decide) c)
          refine J_vret hC hR dX11_advance_229 () ?_ ?_ (by decide) (by decide)
          · trivial
          · obtain ⟨e1, e2, e3, e4⟩ := tok_word hS hl.1 hl.2
            rw [hI, q_at_run (P := (fun x => decide (q_let x))) (decide_eq_false c_99)] at e1 e4
            rw [hS, e1, e2, e3, e4, Nat.add_sub_cancel_left]
      · intro q e val hq hS hl he hI hV hmu
        refine J_aload_n hC dX11_advance_144 0 rfl rfl ?_
        refine J_aload_n hC dX11_advance_145 0 rfl rfl ?_
        refine J_get (v := .int (nI e)) hC wu_X11 rfl dX11_advance_146 0 11 (by decide) wf_X11_159 rfl rfl ?_
        refine J_callVi hC dX11_advance_149 wl_X11_162 yi_X11_byteAt (c_X11_byteAt _ G m il M g e q 2 val 0 c pl e (hil) (bil) (by omega)) rfl rfl 0 11 rfl rfl ⟨Nat.le_of_ble_eq_true rfl, Nat.le_of_ble_eq_true rfl⟩ (Nat.le_of_ble_eq_true rfl) (Nat.le_of_ble_eq_true rfl) (Nat.le_of_ble_eq_true rfl) (fun r u h_149 => ?_)
        subst h_149
        refine J_bipush (v := 48) hC dX11_advance_152 (by decide +kernel) ?_
        refine J_bipush (v := 57) hC dX11_advance_154 (by decide +kernel) ?_
        refine J_callSi hC dX11_advance_156 wl_X11_156 wi_X11 yi_X11_isBetween (c_X11_isBetween _ G (mdW G m (pW M g e q 2 val 0 c pl)) (q_at (M 6) il e) 48 57) rfl rfl ⟨Nat.le_of_ble_eq_true rfl, Nat.le_of_ble_eq_true rfl⟩ (Nat.le_of_ble_eq_true rfl) (Nat.le_of_ble_eq_true rfl) (Nat.le_of_ble_eq_true rfl) (fun r u h_156 => ?_)
        rcases h_156 with ⟨rfl, c_156⟩ | ⟨rfl, c_156⟩
        · refine J_if_eq (tgt := 229) hC dX11_advance_159 (by decide) (fun c => absurd c (by decide)) (fun _ => ?_)
          have hgo := q_at_go (P := (fun x => decide (q_dig x))) (f := M 6) (il := il) (q := e) (by decide) (decide_eq_true c_156)
          have hat : q_at (M 6) il e = M 6 e := by rw [q_at, if_pos hgo.1]
          have hel : e < q_run (fun x => decide (q_dig x)) (M 6) (il - q) q := by rw [hI, hgo.2.2]; have := (q_run_le (fun x => decide (q_dig x)) (M 6) (il - (e + 1)) (e + 1)).1; omega
          refine J_aload_n hC dX11_advance_162 0 rfl rfl ?_
          refine J_aload_n hC dX11_advance_163 0 rfl rfl ?_
          refine J_get (v := .int val) hC wu_X11 rfl dX11_advance_164 0 14 (by decide) wf_X11_171 rfl rfl ?_
          refine J_ldc (v := 99999999) hC dX11_advance_167 wx_X11_181 ?_
          refine J_ic_le (tgt := 179) hC dX11_advance_169 (by decide) (fun (c_169 : val ≤ 99999999) => ?_) (fun (c_169 : ¬ val ≤ 99999999) => ?_)
          · refine J_bipush (v := 10) hC dX11_advance_179 (by decide +kernel) ?_
            refine J_aload_n hC dX11_advance_181 0 rfl rfl ?_
            refine J_get (v := .int val) hC wu_X11 rfl dX11_advance_182 0 14 (by decide) wf_X11_171 rfl rfl ?_
            refine J_imul (v := 10 * val) hC dX11_advance_185 rfl ?_
            refine J_aload_n hC dX11_advance_186 0 rfl rfl ?_
            refine J_aload_n hC dX11_advance_187 0 rfl rfl ?_
            refine J_get (v := .int (nI e)) hC wu_X11 rfl dX11_advance_188 0 11 (by decide) wf_X11_159 rfl rfl ?_
            refine J_callVi hC dX11_advance_191 wl_X11_162 yi_X11_byteAt (c_X11_byteAt _ G m il M g e q 2 val 0 c pl e (hil) (bil) (by omega)) rfl rfl 0 11 rfl rfl ⟨Nat.le_of_ble_eq_true rfl, Nat.le_of_ble_eq_true rfl⟩ (Nat.le_of_ble_eq_true rfl) (Nat.le_of_ble_eq_true rfl) (Nat.le_of_ble_eq_true rfl) (fun r u h_191 => ?_)
            subst h_191
            refine J_iadd (v := (10 * val) + (q_at (M 6) il e)) hC dX11_advance_194 rfl ?_
            refine J_bipush (v := 48) hC dX11_advance_195 (by decide +kernel) ?_
            refine J_isub (v := ((10 * val) + (q_at (M 6) il e)) - 48) hC dX11_advance_197 rfl ?_
            refine J_put (ws' := mdW G m (pW M g e q 2 (((10 * val) + (q_at (M 6) il e)) - 48) 0 c pl)) hC wu_X11 rfl tyX11_ok nmX11 dX11_advance_198 0 14 (by decide) wf_X11_171 rfl rfl (Nat.le_of_ble_eq_true rfl) rfl rfl rfl ?_
            refine J_aload_n hC dX11_advance_201 0 rfl rfl ?_
            refine J_dup hC dX11_advance_202 rfl ?_
            refine J_get (v := .int (nI e)) hC wu_X11 rfl dX11_advance_203 0 11 (by decide) wf_X11_159 rfl rfl ?_
            refine J_iconst (v := 1) hC dX11_advance_206 rfl ?_
            refine J_iadd (v := nI (e + 1)) hC dX11_advance_207 (nI_add e 1) ?_
            refine J_put (ws' := mdW G m (pW M g (e + 1) q 2 (((10 * val) + (q_at (M 6) il e)) - 48) 0 c pl)) hC wu_X11 rfl tyX11_ok nmX11 dX11_advance_208 0 11 (by decide) wf_X11_159 rfl rfl (Nat.le_of_ble_eq_true rfl) rfl rfl rfl ?_
            refine J_goto (tgt := 144) hC dX11_advance_211 (by decide) ?_
            exact ih.2.2 q (e + 1) (((10 * val) + (q_at (M 6) il e)) - 48) (by omega) (hS) (hl) (by have := hgo.1; omega) (hI.trans hgo.2.2) (hV.trans ((fo_step hel).trans (congrArg _ (by rw [q_dv, if_pos c_169, hat])))) (by omega)
          · refine J_aload_n hC dX11_advance_172 0 rfl rfl ?_
            refine J_get (v := .int val) hC wu_X11 rfl dX11_advance_173 0 14 (by decide) wf_X11_171 rfl rfl ?_
            refine J_goto (tgt := 198) hC dX11_advance_176 (by decide) ?_
            refine J_put (ws' := mdW G m (pW M g e q 2 val 0 c pl)) hC wu_X11 rfl tyX11_ok nmX11 dX11_advance_198 0 14 (by decide) wf_X11_171 rfl rfl (Nat.le_of_ble_eq_true rfl) rfl rfl rfl ?_
            refine J_aload_n hC dX11_advance_201 0 rfl rfl ?_
            refine J_dup hC dX11_advance_202 rfl ?_
            refine J_get (v := .int (nI e)) hC wu_X11 rfl dX11_advance_203 0 11 (by decide) wf_X11_159 rfl rfl ?_
            refine J_iconst (v := 1) hC dX11_advance_206 rfl ?_
            refine J_iadd (v := nI (e + 1)) hC dX11_advance_207 (nI_add e 1) ?_
            refine J_put (ws' := mdW G m (pW M g (e + 1) q 2 val 0 c pl)) hC wu_X11 rfl tyX11_ok nmX11 dX11_advance_208 0 11 (by decide) wf_X11_159 rfl rfl (Nat.le_of_ble_eq_true rfl) rfl rfl rfl ?_
            refine J_goto (tgt := 144) hC dX11_advance_211 (by decide) ?_
            exact ih.2.2 q (e + 1) val (by omega) (hS) (hl) (by have := hgo.1; omega) (hI.trans hgo.2.2) (hV.trans ((fo_step hel).trans (congrArg _ (by rw [q_dv, if_neg c_169])))) (by omega)
        · refine J_if_eq (tgt := 229) hC dX11_advance_159 (by decide) (fun _ => ?_) (fun c => absurd (by decide) c)
          refine J_vret hC hR dX11_advance_229 () ?_ ?_ (by decide) (by decide)
          · trivial
          · obtain ⟨e1, e2, e3, e4⟩ := tok_num hS hl.1 hl.2.1 hl.2.2
            have eE := hI.trans (q_at_run (P := (fun x => decide (q_dig x))) (decide_eq_false c_156))
            rw [hV, eE, fo_done (Nat.le_refl _)] at e3
            rw [eE] at e1
            rw [hS, e1, e2, e3, e4]
  exact ((key _).1) p (by omega) (rfl) (Nat.lt_succ_self _)

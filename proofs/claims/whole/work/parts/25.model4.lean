def w_b (b : Int32) : Int32 := vp_nar .byte (b.toInt8.toInt32)
def w_put (b : Int32) (q : RT × Nat) : RT × Nat := (upd q.1 q.2 (w_b b), q.2 + 1)
def outW (M : CT) (q : RT × Nat) : CT := us (ur M 7 q.1) 8 11 (nI q.2)
theorem outW_put (M : CT) (q : RT × Nat) (b : Int32) : us (us (outW M q) 7 q.2 (w_b b)) 8 11 (nI (q.2 + 1)) = outW M (w_put b q) := by
  funext r j
  simp only [outW, w_put, us, ur, upd]
  by_cases h : r = 8
  · subst h; by_cases q : j = 11 <;> simp [q, upd]
  · by_cases h7 : r = 7 <;> simp [h, h7]
theorem outW_0 (M : CT) : us M 8 11 0 = outW M (M 7, 0) := by
  funext r j
  simp only [outW, us, ur, upd]
  by_cases h : r = 8
  · subst h; by_cases q : j = 11 <;> simp [q, upd] <;> rfl
  · by_cases h7 : r = 7 <;> simp [h, h7]

/-- the digits of x, as the class lays them: units from the greatest on -/
def w_units : List Nat := [1000000000, 100000000, 10000000, 1000000, 100000, 10000, 1000, 100, 10, 1]
def w_dec (x : Nat) (q : RT × Nat) : RT × Nat := w_units.foldl (fun q u => if u ≤ x ∨ u = 1 then w_put (nI (48 + x / u % 10)) q else q) q
theorem w_dec_le (x : Nat) (q : RT × Nat) : (w_dec x q).2 ≤ q.2 + 10 := by
  have : ∀ (l : List Nat) (q : RT × Nat), (l.foldl (fun q u => if u ≤ x ∨ u = 1 then w_put (nI (48 + x / u % 10)) q else q) q).2 ≤ q.2 + l.length := by
    intro l
    induction l with
    | nil => intro q; exact Nat.le_refl _
    | cons a l ih =>
      intro q
      rw [List.foldl_cons]
      refine Nat.le_trans (ih _) ?_
      split <;> simp [w_put] <;> omega
  exact this w_units q
/-- the letters of a name to the base 27 -/
def w_l1 (x p : Nat) (q : RT × Nat) : RT × Nat := if 0 < x / p % 27 then w_put (nI (96 + x / p % 27)) q else q
def w_nam (x : Nat) (q : RT × Nat) : RT × Nat := w_l1 x 1 (w_l1 x 27 (w_l1 x 729 (w_l1 x 19683 q)))
theorem w_l1_le (x p : Nat) (q : RT × Nat) : (w_l1 x p q).2 ≤ q.2 + 1 := by
  unfold w_l1
  split <;> simp [w_put]
theorem w_nam_le (x : Nat) (q : RT × Nat) : (w_nam x q).2 ≤ q.2 + 4 := by
  have h1 := w_l1_le x 19683 q
  have h2 := w_l1_le x 729 (w_l1 x 19683 q)
  have h3 := w_l1_le x 27 (w_l1 x 729 (w_l1 x 19683 q))
  have h4 := w_l1_le x 1 (w_l1 x 27 (w_l1 x 729 (w_l1 x 19683 q)))
  unfold w_nam
  omega

theorem lt31_div {x p : Nat} (h : x < 2 ^ 31) : x / p < 2 ^ 31 := Nat.lt_of_le_of_lt (Nat.div_le_self _ _) h
theorem lt31_mod {x p : Nat} (h : x < 2 ^ 31) : x % p < 2 ^ 31 := Nat.lt_of_le_of_lt (Nat.mod_le _ _) h
theorem dig_ge {x t u : Nat} (h : 9 < x / t) (hu : u ≤ 10 * t) : u ≤ x := Nat.le_trans hu (Nat.le_trans (Nat.mul_le_mul_right t h) (Nat.div_mul_le_self x t))
theorem dig_lt {x t u : Nat} (h : x / t ≤ 9) (hu : 10 * t ≤ u) (ht : 0 < t) : ¬ u ≤ x := Nat.not_le.mpr (Nat.lt_of_lt_of_le ((Nat.div_lt_iff_lt_mul ht).mp (Nat.lt_succ_of_le h)) hu)

def mN (g : RT) (bc vc : Nat) : Prop := (∀ w, w < vc → ∃ x, x < 531441 ∧ g (24 + 3 * w) = nI x) ∧ (∀ k, k < bc → ∃ d, d ≤ 1000000 ∧ g (73 + 5 * k) = nI d)
def w_fc (g : RT) (k : Nat) (q : RT × Nat) : RT × Nat := w_put (if g (74 + 5 * k) = 0 then 115 else if g (74 + 5 * k) = 1 then 114 else 116) (w_dec (cl (g (73 + 5 * k))) (w_nam (cl (g (24 + 3 * vOf g k))) (if 0 < q.2 then w_put 32 q else q)))
def w_page (g : RT) (pg bc : Nat) (q : RT × Nat) : RT × Nat := fo (w_fc g) (4 * pg) (min bc (4 * pg + 4) - 4 * pg) q

theorem J_wq {x : JX} {G : gT} {ws ws' : va_W} {k n : Nat} {lv : List (Nat × Value)} {st : List Value} {pc : Nat} (h : ws = ws') (kk : J x G ws' k n lv st pc) : J x G ws k n lv st pc := h ▸ kk
def q_aw1 (w sh : Int32) (n : Nat) (M : CT) : CT := us (us M 6 n ((w >>> (sh &&& 31)) &&& 255)) 8 3 (nI (n + 1))
theorem q_aw1_eq (w sh : Int32) (n : Nat) (M : CT) : us (us M 6 n ((w >>> (sh &&& 31)) &&& 255)) 8 3 (nI (n + 1)) = q_aw1 w sh n M := rfl
theorem q_aw1_8 (w sh : Int32) (n : Nat) (M : CT) : q_aw1 w sh n M 8 3 = nI (n + 1) := rfl
def q_aw (w : Int32) (n : Nat) (M : CT) : CT := q_aw1 w 0 (n + 3) (q_aw1 w 8 (n + 2) (q_aw1 w 16 (n + 1) (q_aw1 w 24 n M)))
theorem q_aw_eq (w : Int32) (n : Nat) (M : CT) : q_aw1 w 0 (n + 3) (q_aw1 w 8 (n + 2) (q_aw1 w 16 (n + 1) (q_aw1 w 24 n M))) = q_aw w n M := rfl
theorem q_aw_8 (w : Int32) (n : Nat) (M : CT) : q_aw w n M 8 3 = nI (n + 4) := q_aw1_8 _ _ _ _
def q_ai (a b c d e : Int32) (n : Nat) (M : CT) : CT := q_aw e (n + 16) (q_aw d (n + 12) (q_aw c (n + 8) (q_aw b (n + 4) (q_aw a n M))))

set_option maxRecDepth 100000 in
set_option maxHeartbeats 4000000 in
theorem c_X11_appendWord (l : Launch) (G : gT) (m : Nat → Nat) (M : CT) (il : Nat) (w : Int32) (hil : M 8 3 = nI il) (bil : il ≤ 596) : MV l yX11_appendWord cX11_appendWord 3 { frames := 0, cells := 0, slots := 0, locals := 0 } [.ref (m 0), .int w] G (mdW G m M) (fun (_ : Unit) => True) (fun _ => mdW G m (q_aw w il M)) := by
  refine jm_v (own := RX11) (by decide) rfl (Nat.le_of_ble_eq_true rfl) (fun x hl hC hR hN => ?_)
  subst hl
  refine J_bipush (v := 24) hC dX11_appendWord_0 (by decide +kernel) ?_
  refine J_istore_n hC [(2, .int 24), (0, .ref (m 0)), (1, .int w)] dX11_appendWord_2 rfl (by decide) rfl ?_
  refine J_iload_n hC dX11_appendWord_3 0 rfl rfl ?_
  refine J_if_lt (tgt := 39) hC dX11_appendWord_4 (by decide) (fun c => absurd c (by decide)) (fun _ => ?_)
  refine J_aload_n hC dX11_appendWord_7 1 rfl rfl ?_
  refine J_get (v := .ref (m 7)) hC wu_X11 rfl dX11_appendWord_8 0 9 (by decide) wf_X11_29 rfl rfl ?_
  refine J_aload_n hC dX11_appendWord_11 1 rfl rfl ?_
  refine J_get (v := .int (M 8 3)) hC wu_X11 rfl dX11_appendWord_12 0 10 (by decide) wf_X11_49 rfl rfl ?_
  refine J_topi hil ?_
  refine J_iload_n hC dX11_appendWord_15 2 rfl rfl ?_
  refine J_iload_n hC dX11_appendWord_16 0 rfl rfl ?_
  refine J_ishr (v := w >>> (24 &&& 31)) hC dX11_appendWord_17 rfl ?_
  refine J_sipush (v := 255) hC dX11_appendWord_18 (by decide +kernel) ?_
  refine J_iand (v := (w >>> (24 &&& 31)) &&& 255) hC dX11_appendWord_21 rfl ?_
  refine J_iast (i := il) (ws' := mdW G m (us M 6 il ((w >>> (24 &&& 31)) &&& 255))) hC dX11_appendWord_22 7 rfl (by omega) (by decide) rfl ?_
  refine J_aload_n hC dX11_appendWord_23 1 rfl rfl ?_
  refine J_dup hC dX11_appendWord_24 rfl ?_
  refine J_get (v := .int (M 8 3)) hC wu_X11 rfl dX11_appendWord_25 0 10 (by decide) wf_X11_49 rfl rfl ?_
  refine J_topi hil ?_
  refine J_iconst (v := 1) hC dX11_appendWord_28 rfl ?_
  refine J_iadd (v := nI (il + 1)) hC dX11_appendWord_29 (nI_add il 1) ?_
  refine J_put (ws' := mdW G m (us (us M 6 il ((w >>> (24 &&& 31)) &&& 255)) 8 3 (nI (il + 1)))) hC wu_X11 rfl tyX11_ok nmX11 dX11_appendWord_30 0 10 (by decide) wf_X11_49 rfl rfl (Nat.le_of_ble_eq_true rfl) rfl rfl rfl ?_
  obtain ⟨X1, hX1⟩ : ∃ X, X = q_aw1 w 24 il M := ⟨_, rfl⟩
  have hY1 : X1 8 3 = nI (il + 1) := by rw [hX1]; rfl
  refine J_wq (congrArg (mdW G m) ((q_aw1_eq w 24 il M).trans hX1.symm)) ?_
  refine J_iinc hC [(2, .int 16), (0, .ref (m 0)), (1, .int w)] dX11_appendWord_33 0 rfl (by decide +kernel) (by decide) rfl ?_
  refine J_goto (tgt := 3) hC dX11_appendWord_36 (by decide) ?_
  refine J_iload_n hC dX11_appendWord_3 0 rfl rfl ?_
  refine J_if_lt (tgt := 39) hC dX11_appendWord_4 (by decide) (fun c => absurd c (by decide)) (fun _ => ?_)
  refine J_aload_n hC dX11_appendWord_7 1 rfl rfl ?_
  refine J_get (v := .ref (m 7)) hC wu_X11 rfl dX11_appendWord_8 0 9 (by decide) wf_X11_29 rfl rfl ?_
  refine J_aload_n hC dX11_appendWord_11 1 rfl rfl ?_
  refine J_get (v := .int (X1 8 3)) hC wu_X11 rfl dX11_appendWord_12 0 10 (by decide) wf_X11_49 rfl rfl ?_
  refine J_topi hY1 ?_
  refine J_iload_n hC dX11_appendWord_15 2 rfl rfl ?_
  refine J_iload_n hC dX11_appendWord_16 0 rfl rfl ?_
  refine J_ishr (v := w >>> (16 &&& 31)) hC dX11_appendWord_17 rfl ?_
  refine J_sipush (v := 255) hC dX11_appendWord_18 (by decide +kernel) ?_
  refine J_iand (v := (w >>> (16 &&& 31)) &&& 255) hC dX11_appendWord_21 rfl ?_
  refine J_iast (i := il + 1) (ws' := mdW G m (us X1 6 (il + 1) ((w >>> (16 &&& 31)) &&& 255))) hC dX11_appendWord_22 7 rfl (by omega) (by decide) rfl ?_
  refine J_aload_n hC dX11_appendWord_23 1 rfl rfl ?_
  refine J_dup hC dX11_appendWord_24 rfl ?_
  refine J_get (v := .int (X1 8 3)) hC wu_X11 rfl dX11_appendWord_25 0 10 (by decide) wf_X11_49 rfl rfl ?_
  refine J_topi hY1 ?_
  refine J_iconst (v := 1) hC dX11_appendWord_28 rfl ?_
  refine J_iadd (v := nI ((il + 1) + 1)) hC dX11_appendWord_29 (nI_add (il + 1) 1) ?_
  refine J_put (ws' := mdW G m (us (us X1 6 (il + 1) ((w >>> (16 &&& 31)) &&& 255)) 8 3 (nI ((il + 1) + 1)))) hC wu_X11 rfl tyX11_ok nmX11 dX11_appendWord_30 0 10 (by decide) wf_X11_49 rfl rfl (Nat.le_of_ble_eq_true rfl) rfl rfl rfl ?_
  obtain ⟨X2, hX2⟩ : ∃ X, X = q_aw1 w 16 (il + 1) X1 := ⟨_, rfl⟩
  have hY2 : X2 8 3 = nI (il + 2) := by rw [hX2]; rfl
  refine J_wq (congrArg (mdW G m) ((q_aw1_eq w 16 (il + 1) X1).trans hX2.symm)) ?_
  refine J_iinc hC [(2, .int 8), (0, .ref (m 0)), (1, .int w)] dX11_appendWord_33 0 rfl (by decide +kernel) (by decide) rfl ?_
  refine J_goto (tgt := 3) hC dX11_appendWord_36 (by decide) ?_
  refine J_iload_n hC dX11_appendWord_3 0 rfl rfl ?_
  refine J_if_lt (tgt := 39) hC dX11_appendWord_4 (by decide) (fun c => absurd c (by decide)) (fun _ => ?_)
  refine J_aload_n hC dX11_appendWord_7 1 rfl rfl ?_
  refine J_get (v := .ref (m 7)) hC wu_X11 rfl dX11_appendWord_8 0 9 (by decide) wf_X11_29 rfl rfl ?_
  refine J_aload_n hC dX11_appendWord_11 1 rfl rfl ?_
  refine J_get (v := .int (X2 8 3)) hC wu_X11 rfl dX11_appendWord_12 0 10 (by decide) wf_X11_49 rfl rfl ?_
  refine J_topi hY2 ?_
  refine J_iload_n hC dX11_appendWord_15 2 rfl rfl ?_
  refine J_iload_n hC dX11_appendWord_16 0 rfl rfl ?_
  refine J_ishr (v := w >>> (8 &&& 31)) hC dX11_appendWord_17 rfl ?_
  refine J_sipush (v := 255) hC dX11_appendWord_18 (by decide +kernel) ?_
  refine J_iand (v := (w >>> (8 &&& 31)) &&& 255) hC dX11_appendWord_21 rfl ?_
  refine J_iast (i := il + 2) (ws' := mdW G m (us X2 6 (il + 2) ((w >>> (8 &&& 31)) &&& 255))) hC dX11_appendWord_22 7 rfl (by omega) (by decide) rfl ?_
  refine J_aload_n hC dX11_appendWord_23 1 rfl rfl ?_
  refine J_dup hC dX11_appendWord_24 rfl ?_
  refine J_get (v := .int (X2 8 3)) hC wu_X11 rfl dX11_appendWord_25 0 10 (by decide) wf_X11_49 rfl rfl ?_
  refine J_topi hY2 ?_
  refine J_iconst (v := 1) hC dX11_appendWord_28 rfl ?_
  refine J_iadd (v := nI ((il + 2) + 1)) hC dX11_appendWord_29 (nI_add (il + 2) 1) ?_
  refine J_put (ws' := mdW G m (us (us X2 6 (il + 2) ((w >>> (8 &&& 31)) &&& 255)) 8 3 (nI ((il + 2) + 1)))) hC wu_X11 rfl tyX11_ok nmX11 dX11_appendWord_30 0 10 (by decide) wf_X11_49 rfl rfl (Nat.le_of_ble_eq_true rfl) rfl rfl rfl ?_
  obtain ⟨X3, hX3⟩ : ∃ X, X = q_aw1 w 8 (il + 2) X2 := ⟨_, rfl⟩
  have hY3 : X3 8 3 = nI (il + 3) := by rw [hX3]; rfl
  refine J_wq (congrArg (mdW G m) ((q_aw1_eq w 8 (il + 2) X2).trans hX3.symm)) ?_
  refine J_iinc hC [(2, .int 0), (0, .ref (m 0)), (1, .int w)] dX11_appendWord_33 0 rfl (by decide +kernel) (by decide) rfl ?_
  refine J_goto (tgt := 3) hC dX11_appendWord_36 (by decide) ?_
  refine J_iload_n hC dX11_appendWord_3 0 rfl rfl ?_
  refine J_if_lt (tgt := 39) hC dX11_appendWord_4 (by decide) (fun c => absurd c (by decide)) (fun _ => ?_)
  refine J_aload_n hC dX11_appendWord_7 1 rfl rfl ?_
  refine J_get (v := .ref (m 7)) hC wu_X11 rfl dX11_appendWord_8 0 9 (by decide) wf_X11_29 rfl rfl ?_
  refine J_aload_n hC dX11_appendWord_11 1 rfl rfl ?_
  refine J_get (v := .int (X3 8 3)) hC wu_X11 rfl dX11_appendWord_12 0 10 (by decide) wf_X11_49 rfl rfl ?_
  refine J_topi hY3 ?_
  refine J_iload_n hC dX11_appendWord_15 2 rfl rfl ?_
  refine J_iload_n hC dX11_appendWord_16 0 rfl rfl ?_
  refine J_ishr (v := w >>> (0 &&& 31)) hC dX11_appendWord_17 rfl ?_
  refine J_sipush (v := 255) hC dX11_appendWord_18 (by decide +kernel) ?_
  refine J_iand (v := (w >>> (0 &&& 31)) &&& 255) hC dX11_appendWord_21 rfl ?_
  refine J_iast (i := il + 3) (ws' := mdW G m (us X3 6 (il + 3) ((w >>> (0 &&& 31)) &&& 255))) hC dX11_appendWord_22 7 rfl (by omega) (by decide) rfl ?_
  refine J_aload_n hC dX11_appendWord_23 1 rfl rfl ?_
  refine J_dup hC dX11_appendWord_24 rfl ?_
  refine J_get (v := .int (X3 8 3)) hC wu_X11 rfl dX11_appendWord_25 0 10 (by decide) wf_X11_49 rfl rfl ?_
  refine J_topi hY3 ?_
  refine J_iconst (v := 1) hC dX11_appendWord_28 rfl ?_
  refine J_iadd (v := nI ((il + 3) + 1)) hC dX11_appendWord_29 (nI_add (il + 3) 1) ?_
  refine J_put (ws' := mdW G m (us (us X3 6 (il + 3) ((w >>> (0 &&& 31)) &&& 255)) 8 3 (nI ((il + 3) + 1)))) hC wu_X11 rfl tyX11_ok nmX11 dX11_appendWord_30 0 10 (by decide) wf_X11_49 rfl rfl (Nat.le_of_ble_eq_true rfl) rfl rfl rfl ?_
  obtain ⟨X4, hX4⟩ : ∃ X, X = q_aw1 w 0 (il + 3) X3 := ⟨_, rfl⟩
  have hY4 : X4 8 3 = nI (il + 4) := by rw [hX4]; rfl
  refine J_wq (congrArg (mdW G m) ((q_aw1_eq w 0 (il + 3) X3).trans hX4.symm)) ?_
  refine J_iinc hC [(2, .int (-8)), (0, .ref (m 0)), (1, .int w)] dX11_appendWord_33 0 rfl (by decide +kernel) (by decide) rfl ?_
  refine J_goto (tgt := 3) hC dX11_appendWord_36 (by decide) ?_
  refine J_iload_n hC dX11_appendWord_3 0 rfl rfl ?_
  refine J_if_lt (tgt := 39) hC dX11_appendWord_4 (by decide) (fun _ => ?_) (fun c => absurd (by decide) c)
  refine J_vret hC hR dX11_appendWord_39 () ?_ ?_ (by decide) (by decide)
  · trivial
  · rw [hX4, hX3, hX2, hX1]
    rfl

set_option maxRecDepth 100000 in
set_option maxHeartbeats 4000000 in
theorem c_X11_appendInput (l : Launch) (G : gT) (m : Nat → Nat) (M : CT) (il : Nat) (a : Int32) (b : Int32) (c : Int32) (d : Int32) (e : Int32) (hil : M 8 3 = nI il) (bil : il ≤ 600) : MI l yX11_appendInput cX11_appendInput 6 (some .int) { frames := 1, cells := 0, slots := 0, locals := 22 } [.ref (m 0), .int a, .int b, .int c, .int d, .int e] G (mdW G m M) (fun r (u : CT) => ((il + 20 ≤ 600) ∧ nI (il + 20) = r ∧ (q_ai a b c d e il (us M 8 2 0)) = u) ∨ ((600 < il + 20) ∧ 0 = r ∧ (us M 8 2 1) = u)) (fun u => mdW G m u) := by
  refine jm_i (own := RX11) (by decide) rfl (Nat.le_of_ble_eq_true rfl) (fun x hl hC hR hN => ?_)
  subst hl
  refine J_aload_n hC dX11_appendInput_0 0 rfl rfl ?_
  refine J_iconst (v := 0) hC dX11_appendInput_1 rfl ?_
  refine J_put (ws' := mdW G m (us M 8 2 0)) hC wu_X11 rfl tyX11_ok nmX11 dX11_appendInput_2 0 8 (by decide) wf_X11_66 rfl rfl (Nat.le_of_ble_eq_true rfl) rfl rfl rfl ?_
  refine J_aload_n hC dX11_appendInput_5 0 rfl rfl ?_
  refine J_aload_n hC dX11_appendInput_6 0 rfl rfl ?_
  refine J_get (v := .int (M 8 3)) hC wu_X11 rfl dX11_appendInput_7 0 10 (by decide) wf_X11_49 rfl rfl ?_
  refine J_topi hil ?_
  refine J_bipush (v := 20) hC dX11_appendInput_10 (by decide +kernel) ?_
  refine J_iadd (v := nI (il + 20)) hC dX11_appendInput_12 (nI_add il 20) ?_
  refine J_sipush (v := 600) hC dX11_appendInput_13 (by decide +kernel) ?_
  refine J_ic_leN (a := il + 20) (b := 600) (tgt := 23) hC dX11_appendInput_16 (by decide) (by omega) (by omega) (fun (c_16 : (il + 20) ≤ 600) => ?_) (fun (c_16 : 600 < (il + 20)) => ?_)
  · refine J_iconst (v := 0) hC dX11_appendInput_23 rfl ?_
    refine J_iconst (v := 1) hC dX11_appendInput_24 rfl ?_
    refine J_callVi hC dX11_appendInput_25 wl_X11_141 yi_X11_refuses (c_X11_refuses_0 _ G m (us M 8 2 0) 1 (by first | assumption | rfl)) rfl rfl 0 11 rfl rfl ⟨Nat.le_of_ble_eq_true rfl, Nat.le_of_ble_eq_true rfl⟩ (Nat.le_of_ble_eq_true rfl) (Nat.le_of_ble_eq_true rfl) (Nat.le_of_ble_eq_true rfl) (fun r u h_25 => ?_)
    obtain ⟨c_25, rfl, rfl⟩ := h_25
    refine J_if_eq (tgt := 33) hC dX11_appendInput_28 (by decide) (fun _ => ?_) (fun c => absurd (by decide) c)
    refine J_aload_n hC dX11_appendInput_33 0 rfl rfl ?_
    refine J_iload_n hC dX11_appendInput_34 1 rfl rfl ?_
    refine J_callVv hC dX11_appendInput_35 wl_X11_145 yi_X11_appendWord (c_X11_appendWord _ G m (us M 8 2 0) il a (hil) (by omega)) rfl rfl 0 11 rfl rfl ⟨Nat.le_of_ble_eq_true rfl, Nat.le_of_ble_eq_true rfl⟩ (Nat.le_of_ble_eq_true rfl) (Nat.le_of_ble_eq_true rfl) (Nat.le_of_ble_eq_true rfl) (fun _ _ => ?_)
    refine J_aload_n hC dX11_appendInput_38 0 rfl rfl ?_
    refine J_iload_n hC dX11_appendInput_39 2 rfl rfl ?_
    refine J_callVv hC dX11_appendInput_40 wl_X11_145 yi_X11_appendWord (c_X11_appendWord _ G m (q_aw a il (us M 8 2 0)) (il + 4) b (q_aw_8 _ _ _) (by omega)) rfl rfl 0 11 rfl rfl ⟨Nat.le_of_ble_eq_true rfl, Nat.le_of_ble_eq_true rfl⟩ (Nat.le_of_ble_eq_true rfl) (Nat.le_of_ble_eq_true rfl) (Nat.le_of_ble_eq_true rfl) (fun _ _ => ?_)
    refine J_aload_n hC dX11_appendInput_43 0 rfl rfl ?_
    refine J_iload_n hC dX11_appendInput_44 3 rfl rfl ?_
    refine J_callVv hC dX11_appendInput_45 wl_X11_145 yi_X11_appendWord (c_X11_appendWord _ G m (q_aw b (il + 4) (q_aw a il (us M 8 2 0))) ((il + 4) + 4) c (q_aw_8 _ _ _) (by omega)) rfl rfl 0 11 rfl rfl ⟨Nat.le_of_ble_eq_true rfl, Nat.le_of_ble_eq_true rfl⟩ (Nat.le_of_ble_eq_true rfl) (Nat.le_of_ble_eq_true rfl) (Nat.le_of_ble_eq_true rfl) (fun _ _ => ?_)
    refine J_aload_n hC dX11_appendInput_48 0 rfl rfl ?_
    refine J_iload hC dX11_appendInput_49 4 rfl ?_
    refine J_callVv hC dX11_appendInput_51 wl_X11_145 yi_X11_appendWord (c_X11_appendWord _ G m (q_aw c ((il + 4) + 4) (q_aw b (il + 4) (q_aw a il (us M 8 2 0)))) (((il + 4) + 4) + 4) d (q_aw_8 _ _ _) (by omega)) rfl rfl 0 11 rfl rfl ⟨Nat.le_of_ble_eq_true rfl, Nat.le_of_ble_eq_true rfl⟩ (Nat.le_of_ble_eq_true rfl) (Nat.le_of_ble_eq_true rfl) (Nat.le_of_ble_eq_true rfl) (fun _ _ => ?_)
    refine J_aload_n hC dX11_appendInput_54 0 rfl rfl ?_
    refine J_iload hC dX11_appendInput_55 5 rfl ?_
    refine J_callVv hC dX11_appendInput_57 wl_X11_145 yi_X11_appendWord (c_X11_appendWord _ G m (q_aw d (((il + 4) + 4) + 4) (q_aw c ((il + 4) + 4) (q_aw b (il + 4) (q_aw a il (us M 8 2 0))))) ((((il + 4) + 4) + 4) + 4) e (q_aw_8 _ _ _) (by omega)) rfl rfl 0 11 rfl rfl ⟨Nat.le_of_ble_eq_true rfl, Nat.le_of_ble_eq_true rfl⟩ (Nat.le_of_ble_eq_true rfl) (Nat.le_of_ble_eq_true rfl) (Nat.le_of_ble_eq_true rfl) (fun _ _ => ?_)
    refine J_aload_n hC dX11_appendInput_60 0 rfl rfl ?_
    refine J_get (v := .int ((q_aw e ((((il + 4) + 4) + 4) + 4) (q_aw d (((il + 4) + 4) + 4) (q_aw c ((il + 4) + 4) (q_aw b (il + 4) (q_aw a il (us M 8 2 0)))))) 8 3)) hC wu_X11 rfl dX11_appendInput_61 0 10 (by decide) wf_X11_49 rfl rfl ?_
    refine J_topi (q_aw_8 _ _ _) ?_
    refine J_iret hC hR dX11_appendInput_64 rfl (q_aw e ((((il + 4) + 4) + 4) + 4) (q_aw d (((il + 4) + 4) + 4) (q_aw c ((il + 4) + 4) (q_aw b (il + 4) (q_aw a il (us M 8 2 0)))))) ?_ ?_ (by decide) (by decide)
    · exact Or.inl ⟨c_16, rfl, rfl⟩
    · rfl
  · refine J_iconst (v := 1) hC dX11_appendInput_19 rfl ?_
    refine J_goto (tgt := 24) hC dX11_appendInput_20 (by decide) ?_
    refine J_iconst (v := 1) hC dX11_appendInput_24 rfl ?_
    refine J_callVi hC dX11_appendInput_25 wl_X11_141 yi_X11_refuses (c_X11_refuses_1 _ G m (us M 8 2 0) 1 (by first | assumption | rfl) (by decide)) rfl rfl 0 11 rfl rfl ⟨Nat.le_of_ble_eq_true rfl, Nat.le_of_ble_eq_true rfl⟩ (Nat.le_of_ble_eq_true rfl) (Nat.le_of_ble_eq_true rfl) (Nat.le_of_ble_eq_true rfl) (fun r u h_25 => ?_)
    obtain ⟨c_25, rfl, rfl⟩ := h_25
    rw [us_us]
    refine J_if_eq (tgt := 33) hC dX11_appendInput_28 (by decide) (fun c => absurd c (by decide)) (fun _ => ?_)
    refine J_iconst (v := 0) hC dX11_appendInput_31 rfl ?_
    refine J_iret hC hR dX11_appendInput_32 rfl (us M 8 2 1) ?_ ?_ (by decide) (by decide)
    · exact Or.inr (⟨c_16, rfl, rfl⟩)
    · rfl

set_option maxRecDepth 100000 in
set_option maxHeartbeats 4000000 in
theorem c_X11_put (l : Launch) (G : gT) (m : Nat → Nat) (M : CT) (q : RT × Nat) (b : Int32) (hq : q.2 < 80) : MV l yX11_put cX11_put 2 { frames := 0, cells := 0, slots := 0, locals := 0 } [.ref (m 0), .int b] G (mdW G m (outW M q)) (fun (_ : Unit) => True) (fun _ => mdW G m (outW M (w_put b q))) := by
  refine jm_v (own := RX11) (by decide) rfl (Nat.le_of_ble_eq_true rfl) (fun x hl hC hR hN => ?_)
  subst hl
  refine J_aload_n hC dX11_put_0 0 rfl rfl ?_
  refine J_get (v := .ref (m 8)) hC wu_X11 rfl dX11_put_1 0 18 (by decide) wf_X11_36 rfl rfl ?_
  refine J_aload_n hC dX11_put_4 0 rfl rfl ?_
  refine J_get (v := .int (nI q.2)) hC wu_X11 rfl dX11_put_5 0 19 (by decide) wf_X11_309 rfl rfl ?_
  refine J_iload_n hC dX11_put_8 1 rfl rfl ?_
  refine J_i2b (v := b.toInt8.toInt32) hC dX11_put_9 rfl ?_
  refine J_bast (i := q.2) (ws' := mdW G m (us (outW M q) 7 q.2 (vp_nar .byte b.toInt8.toInt32))) hC dX11_put_10 8 rfl (by omega) (by decide) rfl ?_
  refine J_aload_n hC dX11_put_11 0 rfl rfl ?_
  refine J_dup hC dX11_put_12 rfl ?_
  refine J_get (v := .int ((outW M q) 8 11)) hC wu_X11 rfl dX11_put_13 0 19 (by decide) wf_X11_309 rfl rfl ?_
  refine J_topi (w := nI q.2) rfl ?_
  refine J_iconst (v := 1) hC dX11_put_16 rfl ?_
  refine J_iadd (v := nI (q.2 + 1)) hC dX11_put_17 (nI_add q.2 1) ?_
  refine J_put (ws' := mdW G m (us (us (outW M q) 7 q.2 (vp_nar .byte b.toInt8.toInt32)) 8 11 (nI (q.2 + 1)))) hC wu_X11 rfl tyX11_ok nmX11 dX11_put_18 0 19 (by decide) wf_X11_309 rfl rfl (Nat.le_of_ble_eq_true rfl) rfl rfl rfl ?_
  refine J_vret hC hR dX11_put_21 () ?_ ?_ (by decide) (by decide)
  · trivial
  · exact congrArg (mdW G m) (outW_put M q b)

set_option maxRecDepth 100000 in
set_option maxHeartbeats 4000000 in
theorem c_X11_letterOf (l : Launch) (G : gT) (ws0 : va_W) (w : Int32) : MI l yX11_letterOf cX11_letterOf 1 (some .int) { frames := 0, cells := 0, slots := 0, locals := 0 } [.int w] G (ws0) (fun r (_ : Unit) => r = if w = 0 then 115 else if w = 1 then 114 else 116) (fun _ => ws0) := by
  refine jm_i (own := RX11) (by decide) rfl (Nat.le_of_ble_eq_true rfl) (fun x hl hC hR hN => ?_)
  subst hl
  refine J_iload_n hC dX11_letterOf_0 0 rfl rfl ?_
  refine J_if_ne (tgt := 7) hC dX11_letterOf_1 (by decide) (fun (c_1 : ¬ w = 0) => ?_) (fun (c_1 : w = 0) => ?_)
  · refine J_iload_n hC dX11_letterOf_7 0 rfl rfl ?_
    refine J_iconst (v := 1) hC dX11_letterOf_8 rfl ?_
    refine J_ic_ne (tgt := 17) hC dX11_letterOf_9 (by decide) (fun (c_9 : ¬ w = 1) => ?_) (fun (c_9 : w = 1) => ?_)
    · refine J_bipush (v := 116) hC dX11_letterOf_17 (by decide +kernel) ?_
      refine J_iret hC hR dX11_letterOf_19 rfl () ?_ ?_ (by decide) (by decide)
      · rw [if_neg c_1, if_neg c_9]
      · rfl
    · refine J_bipush (v := 114) hC dX11_letterOf_12 (by decide +kernel) ?_
      refine J_goto (tgt := 19) hC dX11_letterOf_14 (by decide) ?_
      refine J_iret hC hR dX11_letterOf_19 rfl () ?_ ?_ (by decide) (by decide)
      · rw [if_neg c_1, if_pos c_9]
      · rfl
  · refine J_bipush (v := 115) hC dX11_letterOf_4 (by decide +kernel) ?_
    refine J_iret hC hR dX11_letterOf_6 rfl () ?_ ?_ (by decide) (by decide)
    · rw [if_pos c_1]
    · rfl

set_option maxRecDepth 100000 in
set_option maxHeartbeats 4000000 in
theorem c_X11_printName (l : Launch) (G : gT) (m : Nat → Nat) (M : CT) (q : RT × Nat) (z : Nat) (hx : z < 531441) (hq : q.2 + 4 ≤ 80) : MV l yX11_printName cX11_printName 4 { frames := 1, cells := 0, slots := 0, locals := 21 } [.ref (m 0), .int (nI z)] G (mdW G m (outW M q)) (fun (_ : Unit) => True) (fun _ => mdW G m (outW M (w_nam z q))) := by
  refine jm_v (own := RX11) (by decide) rfl (Nat.le_of_ble_eq_true rfl) (fun x hl hC hR hN => ?_)
  subst hl
  have hx31 : z < 2 ^ 31 := Nat.lt_trans hx (by decide)
  refine J_sipush (v := 19683) hC dX11_printName_0 (by decide +kernel) ?_
  refine J_istore_n hC [(2, .int 19683), (0, .ref (m 0)), (1, .int (nI z))] dX11_printName_3 rfl (by decide) rfl ?_
  refine J_iload_n hC dX11_printName_4 0 rfl rfl ?_
  refine J_if_le (tgt := 35) hC dX11_printName_5 (by decide) (fun c => absurd c (by decide)) (fun _ => ?_)
  refine J_iload_n hC dX11_printName_8 2 rfl rfl ?_
  refine J_iload_n hC dX11_printName_9 0 rfl rfl ?_
  refine J_idiv (v := nI (z / 19683)) hC dX11_printName_10 (by decide) (pk_div (a := z) (d := 19683) (by first | exact hx31 | decide | exact lt31_div hx31 | exact lt31_mod (lt31_div hx31)) (by first | exact hx31 | decide | exact lt31_div hx31 | exact lt31_mod (lt31_div hx31)) (by first | exact hx31 | decide | exact lt31_div hx31 | exact lt31_mod (lt31_div hx31))) ?_
  refine J_bipush (v := 27) hC dX11_printName_11 (by decide +kernel) ?_
  refine J_irem (v := nI ((z / 19683) % 27)) hC dX11_printName_13 (by decide) (pk_rem (a := (z / 19683)) (d := 27) (by first | exact hx31 | decide | exact lt31_div hx31 | exact lt31_mod (lt31_div hx31)) (by first | exact hx31 | decide | exact lt31_div hx31 | exact lt31_mod (lt31_div hx31)) (by first | exact hx31 | decide | exact lt31_div hx31 | exact lt31_mod (lt31_div hx31))) ?_
  refine J_istore_n hC [(3, .int (nI ((z / 19683) % 27))), (2, .int 19683), (0, .ref (m 0)), (1, .int (nI z))] dX11_printName_14 rfl (by decide) rfl ?_
  refine J_iload_n hC dX11_printName_15 0 rfl rfl ?_
  refine J_if_leN (a := (z / 19683) % 27) (tgt := 27) hC dX11_printName_16 (by decide) (by first | exact hx31 | decide | exact lt31_div hx31 | exact lt31_mod (lt31_div hx31)) (fun (c_16 : ((z / 19683) % 27) = 0) => ?_) (fun (c_16 : 0 < ((z / 19683) % 27)) => ?_)
  · refine J_iload_n hC dX11_printName_27 1 rfl rfl ?_
    refine J_bipush (v := 27) hC dX11_printName_28 (by decide +kernel) ?_
    refine J_idiv (v := 729) hC dX11_printName_30 (by decide) (by decide) ?_
    refine J_istore_n hC [(2, .int 729), (3, .int (nI ((z / 19683) % 27))), (0, .ref (m 0)), (1, .int (nI z))] dX11_printName_31 rfl (by decide) rfl ?_
    refine J_goto (tgt := 4) hC dX11_printName_32 (by decide) ?_
    refine J_iload_n hC dX11_printName_4 0 rfl rfl ?_
    refine J_if_le (tgt := 35) hC dX11_printName_5 (by decide) (fun c => absurd c (by decide)) (fun _ => ?_)
    refine J_iload_n hC dX11_printName_8 3 rfl rfl ?_
    refine J_iload_n hC dX11_printName_9 0 rfl rfl ?_
    refine J_idiv (v := nI (z / 729)) hC dX11_printName_10 (by decide) (pk_div (a := z) (d := 729) (by first | exact hx31 | decide | exact lt31_div hx31 | exact lt31_mod (lt31_div hx31)) (by first | exact hx31 | decide | exact lt31_div hx31 | exact lt31_mod (lt31_div hx31)) (by first | exact hx31 | decide | exact lt31_div hx31 | exact lt31_mod (lt31_div hx31))) ?_
    refine J_bipush (v := 27) hC dX11_printName_11 (by decide +kernel) ?_
    refine J_irem (v := nI ((z / 729) % 27)) hC dX11_printName_13 (by decide) (pk_rem (a := (z / 729)) (d := 27) (by first | exact hx31 | decide | exact lt31_div hx31 | exact lt31_mod (lt31_div hx31)) (by first | exact hx31 | decide | exact lt31_div hx31 | exact lt31_mod (lt31_div hx31)) (by first | exact hx31 | decide | exact lt31_div hx31 | exact lt31_mod (lt31_div hx31))) ?_
    refine J_istore_n hC [(3, .int (nI ((z / 729) % 27))), (2, .int 729), (0, .ref (m 0)), (1, .int (nI z))] dX11_printName_14 rfl (by decide) rfl ?_
    refine J_iload_n hC dX11_printName_15 0 rfl rfl ?_
    refine J_if_leN (a := (z / 729) % 27) (tgt := 27) hC dX11_printName_16 (by decide) (by first | exact hx31 | decide | exact lt31_div hx31 | exact lt31_mod (lt31_div hx31)) (fun (c_16_1 : ((z / 729) % 27) = 0) => ?_) (fun (c_16_1 : 0 < ((z / 729) % 27)) => ?_)
    · refine J_iload_n hC dX11_printName_27 1 rfl rfl ?_
      refine J_bipush (v := 27) hC dX11_printName_28 (by decide +kernel) ?_
      refine J_idiv (v := 27) hC dX11_printName_30 (by decide) (by decide) ?_
      refine J_istore_n hC [(2, .int 27), (3, .int (nI ((z / 729) % 27))), (0, .ref (m 0)), (1, .int (nI z))] dX11_printName_31 rfl (by decide) rfl ?_
      refine J_goto (tgt := 4) hC dX11_printName_32 (by decide) ?_
      refine J_iload_n hC dX11_printName_4 0 rfl rfl ?_
      refine J_if_le (tgt := 35) hC dX11_printName_5 (by decide) (fun c => absurd c (by decide)) (fun _ => ?_)
      refine J_iload_n hC dX11_printName_8 3 rfl rfl ?_
      refine J_iload_n hC dX11_printName_9 0 rfl rfl ?_
      refine J_idiv (v := nI (z / 27)) hC dX11_printName_10 (by decide) (pk_div (a := z) (d := 27) (by first | exact hx31 | decide | exact lt31_div hx31 | exact lt31_mod (lt31_div hx31)) (by first | exact hx31 | decide | exact lt31_div hx31 | exact lt31_mod (lt31_div hx31)) (by first | exact hx31 | decide | exact lt31_div hx31 | exact lt31_mod (lt31_div hx31))) ?_
      refine J_bipush (v := 27) hC dX11_printName_11 (by decide +kernel) ?_
      refine J_irem (v := nI ((z / 27) % 27)) hC dX11_printName_13 (by decide) (pk_rem (a := (z / 27)) (d := 27) (by first | exact hx31 | decide | exact lt31_div hx31 | exact lt31_mod (lt31_div hx31)) (by first | exact hx31 | decide | exact lt31_div hx31 | exact lt31_mod (lt31_div hx31)) (by first | exact hx31 | decide | exact lt31_div hx31 | exact lt31_mod (lt31_div hx31))) ?_
      refine J_istore_n hC [(3, .int (nI ((z / 27) % 27))), (2, .int 27), (0, .ref (m 0)), (1, .int (nI z))] dX11_printName_14 rfl (by decide) rfl ?_
      refine J_iload_n hC dX11_printName_15 0 rfl rfl ?_
      refine J_if_leN (a := (z / 27) % 27) (tgt := 27) hC dX11_printName_16 (by decide) (by first | exact hx31 | decide | exact lt31_div hx31 | exact lt31_mod (lt31_div hx31)) (fun (c_16_2 : ((z / 27) % 27) = 0) => ?_) (fun (c_16_2 : 0 < ((z / 27) % 27)) => ?_)
      · refine J_iload_n hC dX11_printName_27 1 rfl rfl ?_
        refine J_bipush (v := 27) hC dX11_printName_28 (by decide +kernel) ?_
        refine J_idiv (v := 1) hC dX11_printName_30 (by decide) (by decide) ?_
        refine J_istore_n hC [(2, .int 1), (3, .int (nI ((z / 27) % 27))), (0, .ref (m 0)), (1, .int (nI z))] dX11_printName_31 rfl (by decide) rfl ?_
        refine J_goto (tgt := 4) hC dX11_printName_32 (by decide) ?_
        refine J_iload_n hC dX11_printName_4 0 rfl rfl ?_
        refine J_if_le (tgt := 35) hC dX11_printName_5 (by decide) (fun c => absurd c (by decide)) (fun _ => ?_)
        refine J_iload_n hC dX11_printName_8 3 rfl rfl ?_
        refine J_iload_n hC dX11_printName_9 0 rfl rfl ?_
        refine J_idiv (v := nI (z / 1)) hC dX11_printName_10 (by decide) (pk_div (a := z) (d := 1) (by first | exact hx31 | decide | exact lt31_div hx31 | exact lt31_mod (lt31_div hx31)) (by first | exact hx31 | decide | exact lt31_div hx31 | exact lt31_mod (lt31_div hx31)) (by first | exact hx31 | decide | exact lt31_div hx31 | exact lt31_mod (lt31_div hx31))) ?_
        refine J_bipush (v := 27) hC dX11_printName_11 (by decide +kernel) ?_
        refine J_irem (v := nI ((z / 1) % 27)) hC dX11_printName_13 (by decide) (pk_rem (a := (z / 1)) (d := 27) (by first | exact hx31 | decide | exact lt31_div hx31 | exact lt31_mod (lt31_div hx31)) (by first | exact hx31 | decide | exact lt31_div hx31 | exact lt31_mod (lt31_div hx31)) (by first | exact hx31 | decide | exact lt31_div hx31 | exact lt31_mod (lt31_div hx31))) ?_
        refine J_istore_n hC [(3, .int (nI ((z / 1) % 27))), (2, .int 1), (0, .ref (m 0)), (1, .int (nI z))] dX11_printName_14 rfl (by decide) rfl ?_
        refine J_iload_n hC dX11_printName_15 0 rfl rfl ?_
        refine J_if_leN (a := (z / 1) % 27) (tgt := 27) hC dX11_printName_16 (by decide) (by first | exact hx31 | decide | exact lt31_div hx31 | exact lt31_mod (lt31_div hx31)) (fun (c_16_3 : ((z / 1) % 27) = 0) => ?_) (fun (c_16_3 : 0 < ((z / 1) % 27)) => ?_)
        · refine J_iload_n hC dX11_printName_27 1 rfl rfl ?_
          refine J_bipush (v := 27) hC dX11_printName_28 (by decide +kernel) ?_
          refine J_idiv (v := 0) hC dX11_printName_30 (by decide) (by decide) ?_
          refine J_istore_n hC [(2, .int 0), (3, .int (nI ((z / 1) % 27))), (0, .ref (m 0)), (1, .int (nI z))] dX11_printName_31 rfl (by decide) rfl ?_
          refine J_goto (tgt := 4) hC dX11_printName_32 (by decide) ?_
          refine J_iload_n hC dX11_printName_4 0 rfl rfl ?_
          refine J_if_le (tgt := 35) hC dX11_printName_5 (by decide) (fun _ => ?_) (fun c => absurd (by decide) c)
          refine J_vret hC hR dX11_printName_35 () ?_ ?_ (by decide) (by decide)
          · trivial
          · refine congrArg (fun z => mdW G m (outW M z)) ?_
            rw [w_nam, show w_l1 z 19683 _ = _ from if_neg (Nat.not_lt.mpr (Nat.le_of_eq c_16)), show w_l1 z 729 _ = _ from if_neg (Nat.not_lt.mpr (Nat.le_of_eq c_16_1)), show w_l1 z 27 _ = _ from if_neg (Nat.not_lt.mpr (Nat.le_of_eq c_16_2)), show w_l1 z 1 _ = _ from if_neg (Nat.not_lt.mpr (Nat.le_of_eq c_16_3))]
        · refine J_aload_n hC dX11_printName_19 2 rfl rfl ?_
          refine J_bipush (v := 96) hC dX11_printName_20 (by decide +kernel) ?_
          refine J_iload_n hC dX11_printName_22 0 rfl rfl ?_
          refine J_iadd (v := nI (96 + ((z / 1) % 27))) hC dX11_printName_23 (nI_add 96 ((z / 1) % 27)) ?_
          refine J_callVv hC dX11_printName_24 wl_X11_312 yi_X11_put (c_X11_put _ G m M q (nI (96 + ((z / 1) % 27))) (Nat.lt_of_lt_of_le (Nat.add_lt_add_left (show 0 < 4 by decide) q.2) hq)) rfl rfl 0 11 rfl rfl ⟨Nat.le_of_ble_eq_true rfl, Nat.le_of_ble_eq_true rfl⟩ (Nat.le_of_ble_eq_true rfl) (Nat.le_of_ble_eq_true rfl) (Nat.le_of_ble_eq_true rfl) (fun _ _ => ?_)
          refine J_iload_n hC dX11_printName_27 1 rfl rfl ?_
          refine J_bipush (v := 27) hC dX11_printName_28 (by decide +kernel) ?_
          refine J_idiv (v := 0) hC dX11_printName_30 (by decide) (by decide) ?_
          refine J_istore_n hC [(2, .int 0), (3, .int (nI ((z / 1) % 27))), (0, .ref (m 0)), (1, .int (nI z))] dX11_printName_31 rfl (by decide) rfl ?_
          refine J_goto (tgt := 4) hC dX11_printName_32 (by decide) ?_
          refine J_iload_n hC dX11_printName_4 0 rfl rfl ?_
          refine J_if_le (tgt := 35) hC dX11_printName_5 (by decide) (fun _ => ?_) (fun c => absurd (by decide) c)
          refine J_vret hC hR dX11_printName_35 () ?_ ?_ (by decide) (by decide)
          · trivial
          · refine congrArg (fun z => mdW G m (outW M z)) ?_
            rw [w_nam, show w_l1 z 19683 _ = _ from if_neg (Nat.not_lt.mpr (Nat.le_of_eq c_16)), show w_l1 z 729 _ = _ from if_neg (Nat.not_lt.mpr (Nat.le_of_eq c_16_1)), show w_l1 z 27 _ = _ from if_neg (Nat.not_lt.mpr (Nat.le_of_eq c_16_2)), show w_l1 z 1 _ = _ from if_pos c_16_3]
      · refine J_aload_n hC dX11_printName_19 2 rfl rfl ?_
        refine J_bipush (v := 96) hC dX11_printName_20 (by decide +kernel) ?_
        refine J_iload_n hC dX11_printName_22 0 rfl rfl ?_
        refine J_iadd (v := nI (96 + ((z / 27) % 27))) hC dX11_printName_23 (nI_add 96 ((z / 27) % 27)) ?_
        refine J_callVv hC dX11_printName_24 wl_X11_312 yi_X11_put (c_X11_put _ G m M q (nI (96 + ((z / 27) % 27))) (Nat.lt_of_lt_of_le (Nat.add_lt_add_left (show 0 < 4 by decide) q.2) hq)) rfl rfl 0 11 rfl rfl ⟨Nat.le_of_ble_eq_true rfl, Nat.le_of_ble_eq_true rfl⟩ (Nat.le_of_ble_eq_true rfl) (Nat.le_of_ble_eq_true rfl) (Nat.le_of_ble_eq_true rfl) (fun _ _ => ?_)
        refine J_iload_n hC dX11_printName_27 1 rfl rfl ?_
        refine J_bipush (v := 27) hC dX11_printName_28 (by decide +kernel) ?_
        refine J_idiv (v := 1) hC dX11_printName_30 (by decide) (by decide) ?_
        refine J_istore_n hC [(2, .int 1), (3, .int (nI ((z / 27) % 27))), (0, .ref (m 0)), (1, .int (nI z))] dX11_printName_31 rfl (by decide) rfl ?_
        refine J_goto (tgt := 4) hC dX11_printName_32 (by decide) ?_
        refine J_iload_n hC dX11_printName_4 0 rfl rfl ?_
        refine J_if_le (tgt := 35) hC dX11_printName_5 (by decide) (fun c => absurd c (by decide)) (fun _ => ?_)
        refine J_iload_n hC dX11_printName_8 3 rfl rfl ?_
        refine J_iload_n hC dX11_printName_9 0 rfl rfl ?_
        refine J_idiv (v := nI (z / 1)) hC dX11_printName_10 (by decide) (pk_div (a := z) (d := 1) (by first | exact hx31 | decide | exact lt31_div hx31 | exact lt31_mod (lt31_div hx31)) (by first | exact hx31 | decide | exact lt31_div hx31 | exact lt31_mod (lt31_div hx31)) (by first | exact hx31 | decide | exact lt31_div hx31 | exact lt31_mod (lt31_div hx31))) ?_
        refine J_bipush (v := 27) hC dX11_printName_11 (by decide +kernel) ?_
        refine J_irem (v := nI ((z / 1) % 27)) hC dX11_printName_13 (by decide) (pk_rem (a := (z / 1)) (d := 27) (by first | exact hx31 | decide | exact lt31_div hx31 | exact lt31_mod (lt31_div hx31)) (by first | exact hx31 | decide | exact lt31_div hx31 | exact lt31_mod (lt31_div hx31)) (by first | exact hx31 | decide | exact lt31_div hx31 | exact lt31_mod (lt31_div hx31))) ?_
        refine J_istore_n hC [(3, .int (nI ((z / 1) % 27))), (2, .int 1), (0, .ref (m 0)), (1, .int (nI z))] dX11_printName_14 rfl (by decide) rfl ?_
        refine J_iload_n hC dX11_printName_15 0 rfl rfl ?_
        refine J_if_leN (a := (z / 1) % 27) (tgt := 27) hC dX11_printName_16 (by decide) (by first | exact hx31 | decide | exact lt31_div hx31 | exact lt31_mod (lt31_div hx31)) (fun (c_16_3 : ((z / 1) % 27) = 0) => ?_) (fun (c_16_3 : 0 < ((z / 1) % 27)) => ?_)
        · refine J_iload_n hC dX11_printName_27 1 rfl rfl ?_
          refine J_bipush (v := 27) hC dX11_printName_28 (by decide +kernel) ?_
          refine J_idiv (v := 0) hC dX11_printName_30 (by decide) (by decide) ?_
          refine J_istore_n hC [(2, .int 0), (3, .int (nI ((z / 1) % 27))), (0, .ref (m 0)), (1, .int (nI z))] dX11_printName_31 rfl (by decide) rfl ?_
          refine J_goto (tgt := 4) hC dX11_printName_32 (by decide) ?_
          refine J_iload_n hC dX11_printName_4 0 rfl rfl ?_
          refine J_if_le (tgt := 35) hC dX11_printName_5 (by decide) (fun _ => ?_) (fun c => absurd (by decide) c)
          refine J_vret hC hR dX11_printName_35 () ?_ ?_ (by decide) (by decide)
          · trivial
          · refine congrArg (fun z => mdW G m (outW M z)) ?_
            rw [w_nam, show w_l1 z 19683 _ = _ from if_neg (Nat.not_lt.mpr (Nat.le_of_eq c_16)), show w_l1 z 729 _ = _ from if_neg (Nat.not_lt.mpr (Nat.le_of_eq c_16_1)), show w_l1 z 27 _ = _ from if_pos c_16_2, show w_l1 z 1 _ = _ from if_neg (Nat.not_lt.mpr (Nat.le_of_eq c_16_3))]
        · refine J_aload_n hC dX11_printName_19 2 rfl rfl ?_
          refine J_bipush (v := 96) hC dX11_printName_20 (by decide +kernel) ?_
          refine J_iload_n hC dX11_printName_22 0 rfl rfl ?_
          refine J_iadd (v := nI (96 + ((z / 1) % 27))) hC dX11_printName_23 (nI_add 96 ((z / 1) % 27)) ?_
          refine J_callVv hC dX11_printName_24 wl_X11_312 yi_X11_put (c_X11_put _ G m M (w_put (nI (96 + ((z / 27) % 27))) q) (nI (96 + ((z / 1) % 27))) (Nat.lt_of_lt_of_le (Nat.add_lt_add_left (show 1 < 4 by decide) q.2) hq)) rfl rfl 0 11 rfl rfl ⟨Nat.le_of_ble_eq_true rfl, Nat.le_of_ble_eq_true rfl⟩ (Nat.le_of_ble_eq_true rfl) (Nat.le_of_ble_eq_true rfl) (Nat.le_of_ble_eq_true rfl) (fun _ _ => ?_)
          refine J_iload_n hC dX11_printName_27 1 rfl rfl ?_
          refine J_bipush (v := 27) hC dX11_printName_28 (by decide +kernel) ?_
          refine J_idiv (v := 0) hC dX11_printName_30 (by decide) (by decide) ?_
          refine J_istore_n hC [(2, .int 0), (3, .int (nI ((z / 1) % 27))), (0, .ref (m 0)), (1, .int (nI z))] dX11_printName_31 rfl (by decide) rfl ?_
          refine J_goto (tgt := 4) hC dX11_printName_32 (by decide) ?_
          refine J_iload_n hC dX11_printName_4 0 rfl rfl ?_
          refine J_if_le (tgt := 35) hC dX11_printName_5 (by decide) (fun _ => ?_) (fun c => absurd (by decide) c)
          refine J_vret hC hR dX11_printName_35 () ?_ ?_ (by decide) (by decide)
          · trivial
          · refine congrArg (fun z => mdW G m (outW M z)) ?_
            rw [w_nam, show w_l1 z 19683 _ = _ from if_neg (Nat.not_lt.mpr (Nat.le_of_eq c_16)), show w_l1 z 729 _ = _ from if_neg (Nat.not_lt.mpr (Nat.le_of_eq c_16_1)), show w_l1 z 27 _ = _ from if_pos c_16_2, show w_l1 z 1 _ = _ from if_pos c_16_3]
    · refine J_aload_n hC dX11_printName_19 2 rfl rfl ?_
      refine J_bipush (v := 96) hC dX11_printName_20 (by decide +kernel) ?_
      refine J_iload_n hC dX11_printName_22 0 rfl rfl ?_
      refine J_iadd (v := nI (96 + ((z / 729) % 27))) hC dX11_printName_23 (nI_add 96 ((z / 729) % 27)) ?_
      refine J_callVv hC dX11_printName_24 wl_X11_312 yi_X11_put (c_X11_put _ G m M q (nI (96 + ((z / 729) % 27))) (Nat.lt_of_lt_of_le (Nat.add_lt_add_left (show 0 < 4 by decide) q.2) hq)) rfl rfl 0 11 rfl rfl ⟨Nat.le_of_ble_eq_true rfl, Nat.le_of_ble_eq_true rfl⟩ (Nat.le_of_ble_eq_true rfl) (Nat.le_of_ble_eq_true rfl) (Nat.le_of_ble_eq_true rfl) (fun _ _ => ?_)
      refine J_iload_n hC dX11_printName_27 1 rfl rfl ?_
      refine J_bipush (v := 27) hC dX11_printName_28 (by decide +kernel) ?_
      refine J_idiv (v := 27) hC dX11_printName_30 (by decide) (by decide) ?_
      refine J_istore_n hC [(2, .int 27), (3, .int (nI ((z / 729) % 27))), (0, .ref (m 0)), (1, .int (nI z))] dX11_printName_31 rfl (by decide) rfl ?_
      refine J_goto (tgt := 4) hC dX11_printName_32 (by decide) ?_
      refine J_iload_n hC dX11_printName_4 0 rfl rfl ?_
      refine J_if_le (tgt := 35) hC dX11_printName_5 (by decide) (fun c => absurd c (by decide)) (fun _ => ?_)
      refine J_iload_n hC dX11_printName_8 3 rfl rfl ?_
      refine J_iload_n hC dX11_printName_9 0 rfl rfl ?_
      refine J_idiv (v := nI (z / 27)) hC dX11_printName_10 (by decide) (pk_div (a := z) (d := 27) (by first | exact hx31 | decide | exact lt31_div hx31 | exact lt31_mod (lt31_div hx31)) (by first | exact hx31 | decide | exact lt31_div hx31 | exact lt31_mod (lt31_div hx31)) (by first | exact hx31 | decide | exact lt31_div hx31 | exact lt31_mod (lt31_div hx31))) ?_
      refine J_bipush (v := 27) hC dX11_printName_11 (by decide +kernel) ?_
      refine J_irem (v := nI ((z / 27) % 27)) hC dX11_printName_13 (by decide) (pk_rem (a := (z / 27)) (d := 27) (by first | exact hx31 | decide | exact lt31_div hx31 | exact lt31_mod (lt31_div hx31)) (by first | exact hx31 | decide | exact lt31_div hx31 | exact lt31_mod (lt31_div hx31)) (by first | exact hx31 | decide | exact lt31_div hx31 | exact lt31_mod (lt31_div hx31))) ?_
      refine J_istore_n hC [(3, .int (nI ((z / 27) % 27))), (2, .int 27), (0, .ref (m 0)), (1, .int (nI z))] dX11_printName_14 rfl (by decide) rfl ?_
      refine J_iload_n hC dX11_printName_15 0 rfl rfl ?_
      refine J_if_leN (a := (z / 27) % 27) (tgt := 27) hC dX11_printName_16 (by decide) (by first | exact hx31 | decide | exact lt31_div hx31 | exact lt31_mod (lt31_div hx31)) (fun (c_16_2 : ((z / 27) % 27) = 0) => ?_) (fun (c_16_2 : 0 < ((z / 27) % 27)) => ?_)
      · refine J_iload_n hC dX11_printName_27 1 rfl rfl ?_
        refine J_bipush (v := 27) hC dX11_printName_28 (by decide +kernel) ?_
        refine J_idiv (v := 1) hC dX11_printName_30 (by decide) (by decide) ?_
        refine J_istore_n hC [(2, .int 1), (3, .int (nI ((z / 27) % 27))), (0, .ref (m 0)), (1, .int (nI z))] dX11_printName_31 rfl (by decide) rfl ?_
        refine J_goto (tgt := 4) hC dX11_printName_32 (by decide) ?_
        refine J_iload_n hC dX11_printName_4 0 rfl rfl ?_
        refine J_if_le (tgt := 35) hC dX11_printName_5 (by decide) (fun c => absurd c (by decide)) (fun _ => ?_)
        refine J_iload_n hC dX11_printName_8 3 rfl rfl ?_
        refine J_iload_n hC dX11_printName_9 0 rfl rfl ?_
        refine J_idiv (v := nI (z / 1)) hC dX11_printName_10 (by decide) (pk_div (a := z) (d := 1) (by first | exact hx31 | decide | exact lt31_div hx31 | exact lt31_mod (lt31_div hx31)) (by first | exact hx31 | decide | exact lt31_div hx31 | exact lt31_mod (lt31_div hx31)) (by first | exact hx31 | decide | exact lt31_div hx31 | exact lt31_mod (lt31_div hx31))) ?_
        refine J_bipush (v := 27) hC dX11_printName_11 (by decide +kernel) ?_
        refine J_irem (v := nI ((z / 1) % 27)) hC dX11_printName_13 (by decide) (pk_rem (a := (z / 1)) (d := 27) (by first | exact hx31 | decide | exact lt31_div hx31 | exact lt31_mod (lt31_div hx31)) (by first | exact hx31 | decide | exact lt31_div hx31 | exact lt31_mod (lt31_div hx31)) (by first | exact hx31 | decide | exact lt31_div hx31 | exact lt31_mod (lt31_div hx31))) ?_
        refine J_istore_n hC [(3, .int (nI ((z / 1) % 27))), (2, .int 1), (0, .ref (m 0)), (1, .int (nI z))] dX11_printName_14 rfl (by decide) rfl ?_
        refine J_iload_n hC dX11_printName_15 0 rfl rfl ?_
        refine J_if_leN (a := (z / 1) % 27) (tgt := 27) hC dX11_printName_16 (by decide) (by first | exact hx31 | decide | exact lt31_div hx31 | exact lt31_mod (lt31_div hx31)) (fun (c_16_3 : ((z / 1) % 27) = 0) => ?_) (fun (c_16_3 : 0 < ((z / 1) % 27)) => ?_)
        · refine J_iload_n hC dX11_printName_27 1 rfl rfl ?_
          refine J_bipush (v := 27) hC dX11_printName_28 (by decide +kernel) ?_
          refine J_idiv (v := 0) hC dX11_printName_30 (by decide) (by decide) ?_
          refine J_istore_n hC [(2, .int 0), (3, .int (nI ((z / 1) % 27))), (0, .ref (m 0)), (1, .int (nI z))] dX11_printName_31 rfl (by decide) rfl ?_
          refine J_goto (tgt := 4) hC dX11_printName_32 (by decide) ?_
          refine J_iload_n hC dX11_printName_4 0 rfl rfl ?_
          refine J_if_le (tgt := 35) hC dX11_printName_5 (by decide) (fun _ => ?_) (fun c => absurd (by decide) c)
          refine J_vret hC hR dX11_printName_35 () ?_ ?_ (by decide) (by decide)
          · trivial
          · refine congrArg (fun z => mdW G m (outW M z)) ?_
            rw [w_nam, show w_l1 z 19683 _ = _ from if_neg (Nat.not_lt.mpr (Nat.le_of_eq c_16)), show w_l1 z 729 _ = _ from if_pos c_16_1, show w_l1 z 27 _ = _ from if_neg (Nat.not_lt.mpr (Nat.le_of_eq c_16_2)), show w_l1 z 1 _ = _ from if_neg (Nat.not_lt.mpr (Nat.le_of_eq c_16_3))]
        · refine J_aload_n hC dX11_printName_19 2 rfl rfl ?_
          refine J_bipush (v := 96) hC dX11_printName_20 (by decide +kernel) ?_
          refine J_iload_n hC dX11_printName_22 0 rfl rfl ?_
          refine J_iadd (v := nI (96 + ((z / 1) % 27))) hC dX11_printName_23 (nI_add 96 ((z / 1) % 27)) ?_
          refine J_callVv hC dX11_printName_24 wl_X11_312 yi_X11_put (c_X11_put _ G m M (w_put (nI (96 + ((z / 729) % 27))) q) (nI (96 + ((z / 1) % 27))) (Nat.lt_of_lt_of_le (Nat.add_lt_add_left (show 1 < 4 by decide) q.2) hq)) rfl rfl 0 11 rfl rfl ⟨Nat.le_of_ble_eq_true rfl, Nat.le_of_ble_eq_true rfl⟩ (Nat.le_of_ble_eq_true rfl) (Nat.le_of_ble_eq_true rfl) (Nat.le_of_ble_eq_true rfl) (fun _ _ => ?_)
          refine J_iload_n hC dX11_printName_27 1 rfl rfl ?_
          refine J_bipush (v := 27) hC dX11_printName_28 (by decide +kernel) ?_
          refine J_idiv (v := 0) hC dX11_printName_30 (by decide) (by decide) ?_
          refine J_istore_n hC [(2, .int 0), (3, .int (nI ((z / 1) % 27))), (0, .ref (m 0)), (1, .int (nI z))] dX11_printName_31 rfl (by decide) rfl ?_
          refine J_goto (tgt := 4) hC dX11_printName_32 (by decide) ?_
          refine J_iload_n hC dX11_printName_4 0 rfl rfl ?_
          refine J_if_le (tgt := 35) hC dX11_printName_5 (by decide) (fun _ => ?_) (fun c => absurd (by decide) c)
          refine J_vret hC hR dX11_printName_35 () ?_ ?_ (by decide) (by decide)
          · trivial
          · refine congrArg (fun z => mdW G m (outW M z)) ?_
            rw [w_nam, show w_l1 z 19683 _ = _ from if_neg (Nat.not_lt.mpr (Nat.le_of_eq c_16)), show w_l1 z 729 _ = _ from if_pos c_16_1, show w_l1 z 27 _ = _ from if_neg (Nat.not_lt.mpr (Nat.le_of_eq c_16_2)), show w_l1 z 1 _ = _ from if_pos c_16_3]
      · refine J_aload_n hC dX11_printName_19 2 rfl rfl ?_
        refine J_bipush (v := 96) hC dX11_printName_20 (by decide +kernel) ?_
        refine J_iload_n hC dX11_printName_22 0 rfl rfl ?_
        refine J_iadd (v := nI (96 + ((z / 27) % 27))) hC dX11_printName_23 (nI_add 96 ((z / 27) % 27)) ?_
        refine J_callVv hC dX11_printName_24 wl_X11_312 yi_X11_put (c_X11_put _ G m M (w_put (nI (96 + ((z / 729) % 27))) q) (nI (96 + ((z / 27) % 27))) (Nat.lt_of_lt_of_le (Nat.add_lt_add_left (show 1 < 4 by decide) q.2) hq)) rfl rfl 0 11 rfl rfl ⟨Nat.le_of_ble_eq_true rfl, Nat.le_of_ble_eq_true rfl⟩ (Nat.le_of_ble_eq_true rfl) (Nat.le_of_ble_eq_true rfl) (Nat.le_of_ble_eq_true rfl) (fun _ _ => ?_)
        refine J_iload_n hC dX11_printName_27 1 rfl rfl ?_
        refine J_bipush (v := 27) hC dX11_printName_28 (by decide +kernel) ?_
        refine J_idiv (v := 1) hC dX11_printName_30 (by decide) (by decide) ?_
        refine J_istore_n hC [(2, .int 1), (3, .int (nI ((z / 27) % 27))), (0, .ref (m 0)), (1, .int (nI z))] dX11_printName_31 rfl (by decide) rfl ?_
        refine J_goto (tgt := 4) hC dX11_printName_32 (by decide) ?_
        refine J_iload_n hC dX11_printName_4 0 rfl rfl ?_
        refine J_if_le (tgt := 35) hC dX11_printName_5 (by decide) (fun c => absurd c (by decide)) (fun _ => ?_)
        refine J_iload_n hC dX11_printName_8 3 rfl rfl ?_
        refine J_iload_n hC dX11_printName_9 0 rfl rfl ?_
        refine J_idiv (v := nI (z / 1)) hC dX11_printName_10 (by decide) (pk_div (a := z) (d := 1) (by first | exact hx31 | decide | exact lt31_div hx31 | exact lt31_mod (lt31_div hx31)) (by first | exact hx31 | decide | exact lt31_div hx31 | exact lt31_mod (lt31_div hx31)) (by first | exact hx31 | decide | exact lt31_div hx31 | exact lt31_mod (lt31_div hx31))) ?_
        refine J_bipush (v := 27) hC dX11_printName_11 (by decide +kernel) ?_
        refine J_irem (v := nI ((z / 1) % 27)) hC dX11_printName_13 (by decide) (pk_rem (a := (z / 1)) (d := 27) (by first | exact hx31 | decide | exact lt31_div hx31 | exact lt31_mod (lt31_div hx31)) (by first | exact hx31 | decide | exact lt31_div hx31 | exact lt31_mod (lt31_div hx31)) (by first | exact hx31 | decide | exact lt31_div hx31 | exact lt31_mod (lt31_div hx31))) ?_
        refine J_istore_n hC [(3, .int (nI ((z / 1) % 27))), (2, .int 1), (0, .ref (m 0)), (1, .int (nI z))] dX11_printName_14 rfl (by decide) rfl ?_
        refine J_iload_n hC dX11_printName_15 0 rfl rfl ?_
        refine J_if_leN (a := (z / 1) % 27) (tgt := 27) hC dX11_printName_16 (by decide) (by first | exact hx31 | decide | exact lt31_div hx31 | exact lt31_mod (lt31_div hx31)) (fun (c_16_3 : ((z / 1) % 27) = 0) => ?_) (fun (c_16_3 : 0 < ((z / 1) % 27)) => ?_)
        · refine J_iload_n hC dX11_printName_27 1 rfl rfl ?_
          refine J_bipush (v := 27) hC dX11_printName_28 (by decide +kernel) ?_
          refine J_idiv (v := 0) hC dX11_printName_30 (by decide) (by decide) ?_
          refine J_istore_n hC [(2, .int 0), (3, .int (nI ((z / 1) % 27))), (0, .ref (m 0)), (1, .int (nI z))] dX11_printName_31 rfl (by decide) rfl ?_
          refine J_goto (tgt := 4) hC dX11_printName_32 (by decide) ?_
          refine J_iload_n hC dX11_printName_4 0 rfl rfl ?_
          refine J_if_le (tgt := 35) hC dX11_printName_5 (by decide) (fun _ => ?_) (fun c => absurd (by decide) c)
          refine J_vret hC hR dX11_printName_35 () ?_ ?_ (by decide) (by decide)
          · trivial
          · refine congrArg (fun z => mdW G m (outW M z)) ?_
            rw [w_nam, show w_l1 z 19683 _ = _ from if_neg (Nat.not_lt.mpr (Nat.le_of_eq c_16)), show w_l1 z 729 _ = _ from if_pos c_16_1, show w_l1 z 27 _ = _ from if_pos c_16_2, show w_l1 z 1 _ = _ from if_neg (Nat.not_lt.mpr (Nat.le_of_eq c_16_3))]
        · refine J_aload_n hC dX11_printName_19 2 rfl rfl ?_
          refine J_bipush (v := 96) hC dX11_printName_20 (by decide +kernel) ?_
          refine J_iload_n hC dX11_printName_22 0 rfl rfl ?_
          refine J_iadd (v := nI (96 + ((z / 1) % 27))) hC dX11_printName_23 (nI_add 96 ((z / 1) % 27)) ?_
          refine J_callVv hC dX11_printName_24 wl_X11_312 yi_X11_put (c_X11_put _ G m M (w_put (nI (96 + ((z / 27) % 27))) (w_put (nI (96 + ((z / 729) % 27))) q)) (nI (96 + ((z / 1) % 27))) (Nat.lt_of_lt_of_le (Nat.add_lt_add_left (show 2 < 4 by decide) q.2) hq)) rfl rfl 0 11 rfl rfl ⟨Nat.le_of_ble_eq_true rfl, Nat.le_of_ble_eq_true rfl⟩ (Nat.le_of_ble_eq_true rfl) (Nat.le_of_ble_eq_true rfl) (Nat.le_of_ble_eq_true rfl) (fun _ _ => ?_)
          refine J_iload_n hC dX11_printName_27 1 rfl rfl ?_
          refine J_bipush (v := 27) hC dX11_printName_28 (by decide +kernel) ?_
          refine J_idiv (v := 0) hC dX11_printName_30 (by decide) (by decide) ?_
          refine J_istore_n hC [(2, .int 0), (3, .int (nI ((z / 1) % 27))), (0, .ref (m 0)), (1, .int (nI z))] dX11_printName_31 rfl (by decide) rfl ?_
          refine J_goto (tgt := 4) hC dX11_printName_32 (by decide) ?_
          refine J_iload_n hC dX11_printName_4 0 rfl rfl ?_
          refine J_if_le (tgt := 35) hC dX11_printName_5 (by decide) (fun _ => ?_) (fun c => absurd (by decide) c)
          refine J_vret hC hR dX11_printName_35 () ?_ ?_ (by decide) (by decide)
          · trivial
          · refine congrArg (fun z => mdW G m (outW M z)) ?_
            rw [w_nam, show w_l1 z 19683 _ = _ from if_neg (Nat.not_lt.mpr (Nat.le_of_eq c_16)), show w_l1 z 729 _ = _ from if_pos c_16_1, show w_l1 z 27 _ = _ from if_pos c_16_2, show w_l1 z 1 _ = _ from if_pos c_16_3]
  · refine J_aload_n hC dX11_printName_19 2 rfl rfl ?_
    refine J_bipush (v := 96) hC dX11_printName_20 (by decide +kernel) ?_
    refine J_iload_n hC dX11_printName_22 0 rfl rfl ?_
    refine J_iadd (v := nI (96 + ((z / 19683) % 27))) hC dX11_printName_23 (nI_add 96 ((z / 19683) % 27)) ?_
    refine J_callVv hC dX11_printName_24 wl_X11_312 yi_X11_put (c_X11_put _ G m M q (nI (96 + ((z / 19683) % 27))) (Nat.lt_of_lt_of_le (Nat.add_lt_add_left (show 0 < 4 by decide) q.2) hq)) rfl rfl 0 11 rfl rfl ⟨Nat.le_of_ble_eq_true rfl, Nat.le_of_ble_eq_true rfl⟩ (Nat.le_of_ble_eq_true rfl) (Nat.le_of_ble_eq_true rfl) (Nat.le_of_ble_eq_true rfl) (fun _ _ => ?_)
    refine J_iload_n hC dX11_printName_27 1 rfl rfl ?_
    refine J_bipush (v := 27) hC dX11_printName_28 (by decide +kernel) ?_
    refine J_idiv (v := 729) hC dX11_printName_30 (by decide) (by decide) ?_
    refine J_istore_n hC [(2, .int 729), (3, .int (nI ((z / 19683) % 27))), (0, .ref (m 0)), (1, .int (nI z))] dX11_printName_31 rfl (by decide) rfl ?_
    refine J_goto (tgt := 4) hC dX11_printName_32 (by decide) ?_
    refine J_iload_n hC dX11_printName_4 0 rfl rfl ?_
    refine J_if_le (tgt := 35) hC dX11_printName_5 (by decide) (fun c => absurd c (by decide)) (fun _ => ?_)
    refine J_iload_n hC dX11_printName_8 3 rfl rfl ?_
    refine J_iload_n hC dX11_printName_9 0 rfl rfl ?_
    refine J_idiv (v := nI (z / 729)) hC dX11_printName_10 (by decide) (pk_div (a := z) (d := 729) (by first | exact hx31 | decide | exact lt31_div hx31 | exact lt31_mod (lt31_div hx31)) (by first | exact hx31 | decide | exact lt31_div hx31 | exact lt31_mod (lt31_div hx31)) (by first | exact hx31 | decide | exact lt31_div hx31 | exact lt31_mod (lt31_div hx31))) ?_
    refine J_bipush (v := 27) hC dX11_printName_11 (by decide +kernel) ?_
    refine J_irem (v := nI ((z / 729) % 27)) hC dX11_printName_13 (by decide) (pk_rem (a := (z / 729)) (d := 27) (by first | exact hx31 | decide | exact lt31_div hx31 | exact lt31_mod (lt31_div hx31)) (by first | exact hx31 | decide | exact lt31_div hx31 | exact lt31_mod (lt31_div hx31)) (by first | exact hx31 | decide | exact lt31_div hx31 | exact lt31_mod (lt31_div hx31))) ?_
    refine J_istore_n hC [(3, .int (nI ((z / 729) % 27))), (2, .int 729), (0, .ref (m 0)), (1, .int (nI z))] dX11_printName_14 rfl (by decide) rfl ?_
    refine J_iload_n hC dX11_printName_15 0 rfl rfl ?_
    refine J_if_leN (a := (z / 729) % 27) (tgt := 27) hC dX11_printName_16 (by decide) (by first | exact hx31 | decide | exact lt31_div hx31 | exact lt31_mod (lt31_div hx31)) (fun (c_16_1 : ((z / 729) % 27) = 0) => ?_) (fun (c_16_1 : 0 < ((z / 729) % 27)) => ?_)
    · refine J_iload_n hC dX11_printName_27 1 rfl rfl ?_
      refine J_bipush (v := 27) hC dX11_printName_28 (by decide +kernel) ?_
      refine J_idiv (v := 27) hC dX11_printName_30 (by decide) (by decide) ?_
      refine J_istore_n hC [(2, .int 27), (3, .int (nI ((z / 729) % 27))), (0, .ref (m 0)), (1, .int (nI z))] dX11_printName_31 rfl (by decide) rfl ?_
      refine J_goto (tgt := 4) hC dX11_printName_32 (by decide) ?_
      refine J_iload_n hC dX11_printName_4 0 rfl rfl ?_
      refine J_if_le (tgt := 35) hC dX11_printName_5 (by decide) (fun c => absurd c (by decide)) (fun _ => ?_)
      refine J_iload_n hC dX11_printName_8 3 rfl rfl ?_
      refine J_iload_n hC dX11_printName_9 0 rfl rfl ?_
      refine J_idiv (v := nI (z / 27)) hC dX11_printName_10 (by decide) (pk_div (a := z) (d := 27) (by first | exact hx31 | decide | exact lt31_div hx31 | exact lt31_mod (lt31_div hx31)) (by first | exact hx31 | decide | exact lt31_div hx31 | exact lt31_mod (lt31_div hx31)) (by first | exact hx31 | decide | exact lt31_div hx31 | exact lt31_mod (lt31_div hx31))) ?_
      refine J_bipush (v := 27) hC dX11_printName_11 (by decide +kernel) ?_
      refine J_irem (v := nI ((z / 27) % 27)) hC dX11_printName_13 (by decide) (pk_rem (a := (z / 27)) (d := 27) (by first | exact hx31 | decide | exact lt31_div hx31 | exact lt31_mod (lt31_div hx31)) (by first | exact hx31 | decide | exact lt31_div hx31 | exact lt31_mod (lt31_div hx31)) (by first | exact hx31 | decide | exact lt31_div hx31 | exact lt31_mod (lt31_div hx31))) ?_
      refine J_istore_n hC [(3, .int (nI ((z / 27) % 27))), (2, .int 27), (0, .ref (m 0)), (1, .int (nI z))] dX11_printName_14 rfl (by decide) rfl ?_
      refine J_iload_n hC dX11_printName_15 0 rfl rfl ?_
      refine J_if_leN (a := (z / 27) % 27) (tgt := 27) hC dX11_printName_16 (by decide) (by first | exact hx31 | decide | exact lt31_div hx31 | exact lt31_mod (lt31_div hx31)) (fun (c_16_2 : ((z / 27) % 27) = 0) => ?_) (fun (c_16_2 : 0 < ((z / 27) % 27)) => ?_)
      · refine J_iload_n hC dX11_printName_27 1 rfl rfl ?_
        refine J_bipush (v := 27) hC dX11_printName_28 (by decide +kernel) ?_
        refine J_idiv (v := 1) hC dX11_printName_30 (by decide) (by decide) ?_
        refine J_istore_n hC [(2, .int 1), (3, .int (nI ((z / 27) % 27))), (0, .ref (m 0)), (1, .int (nI z))] dX11_printName_31 rfl (by decide) rfl ?_
        refine J_goto (tgt := 4) hC dX11_printName_32 (by decide) ?_
        refine J_iload_n hC dX11_printName_4 0 rfl rfl ?_
        refine J_if_le (tgt := 35) hC dX11_printName_5 (by decide) (fun c => absurd c (by decide)) (fun _ => ?_)
        refine J_iload_n hC dX11_printName_8 3 rfl rfl ?_
        refine J_iload_n hC dX11_printName_9 0 rfl rfl ?_
        refine J_idiv (v := nI (z / 1)) hC dX11_printName_10 (by decide) (pk_div (a := z) (d := 1) (by first | exact hx31 | decide | exact lt31_div hx31 | exact lt31_mod (lt31_div hx31)) (by first | exact hx31 | decide | exact lt31_div hx31 | exact lt31_mod (lt31_div hx31)) (by first | exact hx31 | decide | exact lt31_div hx31 | exact lt31_mod (lt31_div hx31))) ?_
        refine J_bipush (v := 27) hC dX11_printName_11 (by decide +kernel) ?_
        refine J_irem (v := nI ((z / 1) % 27)) hC dX11_printName_13 (by decide) (pk_rem (a := (z / 1)) (d := 27) (by first | exact hx31 | decide | exact lt31_div hx31 | exact lt31_mod (lt31_div hx31)) (by first | exact hx31 | decide | exact lt31_div hx31 | exact lt31_mod (lt31_div hx31)) (by first | exact hx31 | decide | exact lt31_div hx31 | exact lt31_mod (lt31_div hx31))) ?_
        refine J_istore_n hC [(3, .int (nI ((z / 1) % 27))), (2, .int 1), (0, .ref (m 0)), (1, .int (nI z))] dX11_printName_14 rfl (by decide) rfl ?_
        refine J_iload_n hC dX11_printName_15 0 rfl rfl ?_
        refine J_if_leN (a := (z / 1) % 27) (tgt := 27) hC dX11_printName_16 (by decide) (by first | exact hx31 | decide | exact lt31_div hx31 | exact lt31_mod (lt31_div hx31)) (fun (c_16_3 : ((z / 1) % 27) = 0) => ?_) (fun (c_16_3 : 0 < ((z / 1) % 27)) => ?_)
        · refine J_iload_n hC dX11_printName_27 1 rfl rfl ?_
          refine J_bipush (v := 27) hC dX11_printName_28 (by decide +kernel) ?_
          refine J_idiv (v := 0) hC dX11_printName_30 (by decide) (by decide) ?_
          refine J_istore_n hC [(2, .int 0), (3, .int (nI ((z / 1) % 27))), (0, .ref (m 0)), (1, .int (nI z))] dX11_printName_31 rfl (by decide) rfl ?_
          refine J_goto (tgt := 4) hC dX11_printName_32 (by decide) ?_
          refine J_iload_n hC dX11_printName_4 0 rfl rfl ?_
          refine J_if_le (tgt := 35) hC dX11_printName_5 (by decide) (fun _ => ?_) (fun c => absurd (by decide) c)
          refine J_vret hC hR dX11_printName_35 () ?_ ?_ (by decide) (by decide)
          · trivial
          · refine congrArg (fun z => mdW G m (outW M z)) ?_
            rw [w_nam, show w_l1 z 19683 _ = _ from if_pos c_16, show w_l1 z 729 _ = _ from if_neg (Nat.not_lt.mpr (Nat.le_of_eq c_16_1)), show w_l1 z 27 _ = _ from if_neg (Nat.not_lt.mpr (Nat.le_of_eq c_16_2)), show w_l1 z 1 _ = _ from if_neg (Nat.not_lt.mpr (Nat.le_of_eq c_16_3))]
        · refine J_aload_n hC dX11_printName_19 2 rfl rfl ?_
          refine J_bipush (v := 96) hC dX11_printName_20 (by decide +kernel) ?_
          refine J_iload_n hC dX11_printName_22 0 rfl rfl ?_
          refine J_iadd (v := nI (96 + ((z / 1) % 27))) hC dX11_printName_23 (nI_add 96 ((z / 1) % 27)) ?_
          refine J_callVv hC dX11_printName_24 wl_X11_312 yi_X11_put (c_X11_put _ G m M (w_put (nI (96 + ((z / 19683) % 27))) q) (nI (96 + ((z / 1) % 27))) (Nat.lt_of_lt_of_le (Nat.add_lt_add_left (show 1 < 4 by decide) q.2) hq)) rfl rfl 0 11 rfl rfl ⟨Nat.le_of_ble_eq_true rfl, Nat.le_of_ble_eq_true rfl⟩ (Nat.le_of_ble_eq_true rfl) (Nat.le_of_ble_eq_true rfl) (Nat.le_of_ble_eq_true rfl) (fun _ _ => ?_)
          refine J_iload_n hC dX11_printName_27 1 rfl rfl ?_
          refine J_bipush (v := 27) hC dX11_printName_28 (by decide +kernel) ?_
          refine J_idiv (v := 0) hC dX11_printName_30 (by decide) (by decide) ?_
          refine J_istore_n hC [(2, .int 0), (3, .int (nI ((z / 1) % 27))), (0, .ref (m 0)), (1, .int (nI z))] dX11_printName_31 rfl (by decide) rfl ?_
          refine J_goto (tgt := 4) hC dX11_printName_32 (by decide) ?_
          refine J_iload_n hC dX11_printName_4 0 rfl rfl ?_
          refine J_if_le (tgt := 35) hC dX11_printName_5 (by decide) (fun _ => ?_) (fun c => absurd (by decide) c)
          refine J_vret hC hR dX11_printName_35 () ?_ ?_ (by decide) (by decide)
          · trivial
          · refine congrArg (fun z => mdW G m (outW M z)) ?_
            rw [w_nam, show w_l1 z 19683 _ = _ from if_pos c_16, show w_l1 z 729 _ = _ from if_neg (Nat.not_lt.mpr (Nat.le_of_eq c_16_1)), show w_l1 z 27 _ = _ from if_neg (Nat.not_lt.mpr (Nat.le_of_eq c_16_2)), show w_l1 z 1 _ = _ from if_pos c_16_3]
      · refine J_aload_n hC dX11_printName_19 2 rfl rfl ?_
        refine J_bipush (v := 96) hC dX11_printName_20 (by decide +kernel) ?_
        refine J_iload_n hC dX11_printName_22 0 rfl rfl ?_
        refine J_iadd (v := nI (96 + ((z / 27) % 27))) hC dX11_printName_23 (nI_add 96 ((z / 27) % 27)) ?_
        refine J_callVv hC dX11_printName_24 wl_X11_312 yi_X11_put (c_X11_put _ G m M (w_put (nI (96 + ((z / 19683) % 27))) q) (nI (96 + ((z / 27) % 27))) (Nat.lt_of_lt_of_le (Nat.add_lt_add_left (show 1 < 4 by decide) q.2) hq)) rfl rfl 0 11 rfl rfl ⟨Nat.le_of_ble_eq_true rfl, Nat.le_of_ble_eq_true rfl⟩ (Nat.le_of_ble_eq_true rfl) (Nat.le_of_ble_eq_true rfl) (Nat.le_of_ble_eq_true rfl) (fun _ _ => ?_)
        refine J_iload_n hC dX11_printName_27 1 rfl rfl ?_
        refine J_bipush (v := 27) hC dX11_printName_28 (by decide +kernel) ?_
        refine J_idiv (v := 1) hC dX11_printName_30 (by decide) (by decide) ?_
        refine J_istore_n hC [(2, .int 1), (3, .int (nI ((z / 27) % 27))), (0, .ref (m 0)), (1, .int (nI z))] dX11_printName_31 rfl (by decide) rfl ?_
        refine J_goto (tgt := 4) hC dX11_printName_32 (by decide) ?_
        refine J_iload_n hC dX11_printName_4 0 rfl rfl ?_
        refine J_if_le (tgt := 35) hC dX11_printName_5 (by decide) (fun c => absurd c (by decide)) (fun _ => ?_)
        refine J_iload_n hC dX11_printName_8 3 rfl rfl ?_
        refine J_iload_n hC dX11_printName_9 0 rfl rfl ?_
        refine J_idiv (v := nI (z / 1)) hC dX11_printName_10 (by decide) (pk_div (a := z) (d := 1) (by first | exact hx31 | decide | exact lt31_div hx31 | exact lt31_mod (lt31_div hx31)) (by first | exact hx31 | decide | exact lt31_div hx31 | exact lt31_mod (lt31_div hx31)) (by first | exact hx31 | decide | exact lt31_div hx31 | exact lt31_mod (lt31_div hx31))) ?_
        refine J_bipush (v := 27) hC dX11_printName_11 (by decide +kernel) ?_
        refine J_irem (v := nI ((z / 1) % 27)) hC dX11_printName_13 (by decide) (pk_rem (a := (z / 1)) (d := 27) (by first | exact hx31 | decide | exact lt31_div hx31 | exact lt31_mod (lt31_div hx31)) (by first | exact hx31 | decide | exact lt31_div hx31 | exact lt31_mod (lt31_div hx31)) (by first | exact hx31 | decide | exact lt31_div hx31 | exact lt31_mod (lt31_div hx31))) ?_
        refine J_istore_n hC [(3, .int (nI ((z / 1) % 27))), (2, .int 1), (0, .ref (m 0)), (1, .int (nI z))] dX11_printName_14 rfl (by decide) rfl ?_
        refine J_iload_n hC dX11_printName_15 0 rfl rfl ?_
        refine J_if_leN (a := (z / 1) % 27) (tgt := 27) hC dX11_printName_16 (by decide) (by first | exact hx31 | decide | exact lt31_div hx31 | exact lt31_mod (lt31_div hx31)) (fun (c_16_3 : ((z / 1) % 27) = 0) => ?_) (fun (c_16_3 : 0 < ((z / 1) % 27)) => ?_)
        · refine J_iload_n hC dX11_printName_27 1 rfl rfl ?_
          refine J_bipush (v := 27) hC dX11_printName_28 (by decide +kernel) ?_
          refine J_idiv (v := 0) hC dX11_printName_30 (by decide) (by decide) ?_
          refine J_istore_n hC [(2, .int 0), (3, .int (nI ((z / 1) % 27))), (0, .ref (m 0)), (1, .int (nI z))] dX11_printName_31 rfl (by decide) rfl ?_
          refine J_goto (tgt := 4) hC dX11_printName_32 (by decide) ?_
          refine J_iload_n hC dX11_printName_4 0 rfl rfl ?_
          refine J_if_le (tgt := 35) hC dX11_printName_5 (by decide) (fun _ => ?_) (fun c => absurd (by decide) c)
          refine J_vret hC hR dX11_printName_35 () ?_ ?_ (by decide) (by decide)
          · trivial
          · refine congrArg (fun z => mdW G m (outW M z)) ?_
            rw [w_nam, show w_l1 z 19683 _ = _ from if_pos c_16, show w_l1 z 729 _ = _ from if_neg (Nat.not_lt.mpr (Nat.le_of_eq c_16_1)), show w_l1 z 27 _ = _ from if_pos c_16_2, show w_l1 z 1 _ = _ from if_neg (Nat.not_lt.mpr (Nat.le_of_eq c_16_3))]
        · refine J_aload_n hC dX11_printName_19 2 rfl rfl ?_
          refine J_bipush (v := 96) hC dX11_printName_20 (by decide +kernel) ?_
          refine J_iload_n hC dX11_printName_22 0 rfl rfl ?_
          refine J_iadd (v := nI (96 + ((z / 1) % 27))) hC dX11_printName_23 (nI_add 96 ((z / 1) % 27)) ?_
          refine J_callVv hC dX11_printName_24 wl_X11_312 yi_X11_put (c_X11_put _ G m M (w_put (nI (96 + ((z / 27) % 27))) (w_put (nI (96 + ((z / 19683) % 27))) q)) (nI (96 + ((z / 1) % 27))) (Nat.lt_of_lt_of_le (Nat.add_lt_add_left (show 2 < 4 by decide) q.2) hq)) rfl rfl 0 11 rfl rfl ⟨Nat.le_of_ble_eq_true rfl, Nat.le_of_ble_eq_true rfl⟩ (Nat.le_of_ble_eq_true rfl) (Nat.le_of_ble_eq_true rfl) (Nat.le_of_ble_eq_true rfl) (fun _ _ => ?_)
          refine J_iload_n hC dX11_printName_27 1 rfl rfl ?_
          refine J_bipush (v := 27) hC dX11_printName_28 (by decide +kernel) ?_
          refine J_idiv (v := 0) hC dX11_printName_30 (by decide) (by decide) ?_
          refine J_istore_n hC [(2, .int 0), (3, .int (nI ((z / 1) % 27))), (0, .ref (m 0)), (1, .int (nI z))] dX11_printName_31 rfl (by decide) rfl ?_
          refine J_goto (tgt := 4) hC dX11_printName_32 (by decide) ?_
          refine J_iload_n hC dX11_printName_4 0 rfl rfl ?_
          refine J_if_le (tgt := 35) hC dX11_printName_5 (by decide) (fun _ => ?_) (fun c => absurd (by decide) c)
          refine J_vret hC hR dX11_printName_35 () ?_ ?_ (by decide) (by decide)
          · trivial
          · refine congrArg (fun z => mdW G m (outW M z)) ?_
            rw [w_nam, show w_l1 z 19683 _ = _ from if_pos c_16, show w_l1 z 729 _ = _ from if_neg (Nat.not_lt.mpr (Nat.le_of_eq c_16_1)), show w_l1 z 27 _ = _ from if_pos c_16_2, show w_l1 z 1 _ = _ from if_pos c_16_3]
    · refine J_aload_n hC dX11_printName_19 2 rfl rfl ?_
      refine J_bipush (v := 96) hC dX11_printName_20 (by decide +kernel) ?_
      refine J_iload_n hC dX11_printName_22 0 rfl rfl ?_
      refine J_iadd (v := nI (96 + ((z / 729) % 27))) hC dX11_printName_23 (nI_add 96 ((z / 729) % 27)) ?_
      refine J_callVv hC dX11_printName_24 wl_X11_312 yi_X11_put (c_X11_put _ G m M (w_put (nI (96 + ((z / 19683) % 27))) q) (nI (96 + ((z / 729) % 27))) (Nat.lt_of_lt_of_le (Nat.add_lt_add_left (show 1 < 4 by decide) q.2) hq)) rfl rfl 0 11 rfl rfl ⟨Nat.le_of_ble_eq_true rfl, Nat.le_of_ble_eq_true rfl⟩ (Nat.le_of_ble_eq_true rfl) (Nat.le_of_ble_eq_true rfl) (Nat.le_of_ble_eq_true rfl) (fun _ _ => ?_)
      refine J_iload_n hC dX11_printName_27 1 rfl rfl ?_
      refine J_bipush (v := 27) hC dX11_printName_28 (by decide +kernel) ?_
      refine J_idiv (v := 27) hC dX11_printName_30 (by decide) (by decide) ?_
      refine J_istore_n hC [(2, .int 27), (3, .int (nI ((z / 729) % 27))), (0, .ref (m 0)), (1, .int (nI z))] dX11_printName_31 rfl (by decide) rfl ?_
      refine J_goto (tgt := 4) hC dX11_printName_32 (by decide) ?_
      refine J_iload_n hC dX11_printName_4 0 rfl rfl ?_
      refine J_if_le (tgt := 35) hC dX11_printName_5 (by decide) (fun c => absurd c (by decide)) (fun _ => ?_)
      refine J_iload_n hC dX11_printName_8 3 rfl rfl ?_
      refine J_iload_n hC dX11_printName_9 0 rfl rfl ?_
      refine J_idiv (v := nI (z / 27)) hC dX11_printName_10 (by decide) (pk_div (a := z) (d := 27) (by first | exact hx31 | decide | exact lt31_div hx31 | exact lt31_mod (lt31_div hx31)) (by first | exact hx31 | decide | exact lt31_div hx31 | exact lt31_mod (lt31_div hx31)) (by first | exact hx31 | decide | exact lt31_div hx31 | exact lt31_mod (lt31_div hx31))) ?_
      refine J_bipush (v := 27) hC dX11_printName_11 (by decide +kernel) ?_
      refine J_irem (v := nI ((z / 27) % 27)) hC dX11_printName_13 (by decide) (pk_rem (a := (z / 27)) (d := 27) (by first | exact hx31 | decide | exact lt31_div hx31 | exact lt31_mod (lt31_div hx31)) (by first | exact hx31 | decide | exact lt31_div hx31 | exact lt31_mod (lt31_div hx31)) (by first | exact hx31 | decide | exact lt31_div hx31 | exact lt31_mod (lt31_div hx31))) ?_
      refine J_istore_n hC [(3, .int (nI ((z / 27) % 27))), (2, .int 27), (0, .ref (m 0)), (1, .int (nI z))] dX11_printName_14 rfl (by decide) rfl ?_
      refine J_iload_n hC dX11_printName_15 0 rfl rfl ?_
      refine J_if_leN (a := (z / 27) % 27) (tgt := 27) hC dX11_printName_16 (by decide) (by first | exact hx31 | decide | exact lt31_div hx31 | exact lt31_mod (lt31_div hx31)) (fun (c_16_2 : ((z / 27) % 27) = 0) => ?_) (fun (c_16_2 : 0 < ((z / 27) % 27)) => ?_)
      · refine J_iload_n hC dX11_printName_27 1 rfl rfl ?_
        refine J_bipush (v := 27) hC dX11_printName_28 (by decide +kernel) ?_
        refine J_idiv (v := 1) hC dX11_printName_30 (by decide) (by decide) ?_
        refine J_istore_n hC [(2, .int 1), (3, .int (nI ((z / 27) % 27))), (0, .ref (m 0)), (1, .int (nI z))] dX11_printName_31 rfl (by decide) rfl ?_
        refine J_goto (tgt := 4) hC dX11_printName_32 (by decide) ?_
        refine J_iload_n hC dX11_printName_4 0 rfl rfl ?_
        refine J_if_le (tgt := 35) hC dX11_printName_5 (by decide) (fun c => absurd c (by decide)) (fun _ => ?_)
        refine J_iload_n hC dX11_printName_8 3 rfl rfl ?_
        refine J_iload_n hC dX11_printName_9 0 rfl rfl ?_
        refine J_idiv (v := nI (z / 1)) hC dX11_printName_10 (by decide) (pk_div (a := z) (d := 1) (by first | exact hx31 | decide | exact lt31_div hx31 | exact lt31_mod (lt31_div hx31)) (by first | exact hx31 | decide | exact lt31_div hx31 | exact lt31_mod (lt31_div hx31)) (by first | exact hx31 | decide | exact lt31_div hx31 | exact lt31_mod (lt31_div hx31))) ?_
        refine J_bipush (v := 27) hC dX11_printName_11 (by decide +kernel) ?_
        refine J_irem (v := nI ((z / 1) % 27)) hC dX11_printName_13 (by decide) (pk_rem (a := (z / 1)) (d := 27) (by first | exact hx31 | decide | exact lt31_div hx31 | exact lt31_mod (lt31_div hx31)) (by first | exact hx31 | decide | exact lt31_div hx31 | exact lt31_mod (lt31_div hx31)) (by first | exact hx31 | decide | exact lt31_div hx31 | exact lt31_mod (lt31_div hx31))) ?_
        refine J_istore_n hC [(3, .int (nI ((z / 1) % 27))), (2, .int 1), (0, .ref (m 0)), (1, .int (nI z))] dX11_printName_14 rfl (by decide) rfl ?_
        refine J_iload_n hC dX11_printName_15 0 rfl rfl ?_
        refine J_if_leN (a := (z / 1) % 27) (tgt := 27) hC dX11_printName_16 (by decide) (by first | exact hx31 | decide | exact lt31_div hx31 | exact lt31_mod (lt31_div hx31)) (fun (c_16_3 : ((z / 1) % 27) = 0) => ?_) (fun (c_16_3 : 0 < ((z / 1) % 27)) => ?_)
        · refine J_iload_n hC dX11_printName_27 1 rfl rfl ?_
          refine J_bipush (v := 27) hC dX11_printName_28 (by decide +kernel) ?_
          refine J_idiv (v := 0) hC dX11_printName_30 (by decide) (by decide) ?_
          refine J_istore_n hC [(2, .int 0), (3, .int (nI ((z / 1) % 27))), (0, .ref (m 0)), (1, .int (nI z))] dX11_printName_31 rfl (by decide) rfl ?_
          refine J_goto (tgt := 4) hC dX11_printName_32 (by decide) ?_
          refine J_iload_n hC dX11_printName_4 0 rfl rfl ?_
          refine J_if_le (tgt := 35) hC dX11_printName_5 (by decide) (fun _ => ?_) (fun c => absurd (by decide) c)
          refine J_vret hC hR dX11_printName_35 () ?_ ?_ (by decide) (by decide)
          · trivial
          · refine congrArg (fun z => mdW G m (outW M z)) ?_
            rw [w_nam, show w_l1 z 19683 _ = _ from if_pos c_16, show w_l1 z 729 _ = _ from if_pos c_16_1, show w_l1 z 27 _ = _ from if_neg (Nat.not_lt.mpr (Nat.le_of_eq c_16_2)), show w_l1 z 1 _ = _ from if_neg (Nat.not_lt.mpr (Nat.le_of_eq c_16_3))]
        · refine J_aload_n hC dX11_printName_19 2 rfl rfl ?_
          refine J_bipush (v := 96) hC dX11_printName_20 (by decide +kernel) ?_
          refine J_iload_n hC dX11_printName_22 0 rfl rfl ?_
          refine J_iadd (v := nI (96 + ((z / 1) % 27))) hC dX11_printName_23 (nI_add 96 ((z / 1) % 27)) ?_
          refine J_callVv hC dX11_printName_24 wl_X11_312 yi_X11_put (c_X11_put _ G m M (w_put (nI (96 + ((z / 729) % 27))) (w_put (nI (96 + ((z / 19683) % 27))) q)) (nI (96 + ((z / 1) % 27))) (Nat.lt_of_lt_of_le (Nat.add_lt_add_left (show 2 < 4 by decide) q.2) hq)) rfl rfl 0 11 rfl rfl ⟨Nat.le_of_ble_eq_true rfl, Nat.le_of_ble_eq_true rfl⟩ (Nat.le_of_ble_eq_true rfl) (Nat.le_of_ble_eq_true rfl) (Nat.le_of_ble_eq_true rfl) (fun _ _ => ?_)
          refine J_iload_n hC dX11_printName_27 1 rfl rfl ?_
          refine J_bipush (v := 27) hC dX11_printName_28 (by decide +kernel) ?_
          refine J_idiv (v := 0) hC dX11_printName_30 (by decide) (by decide) ?_
          refine J_istore_n hC [(2, .int 0), (3, .int (nI ((z / 1) % 27))), (0, .ref (m 0)), (1, .int (nI z))] dX11_printName_31 rfl (by decide) rfl ?_
          refine J_goto (tgt := 4) hC dX11_printName_32 (by decide) ?_
          refine J_iload_n hC dX11_printName_4 0 rfl rfl ?_
          refine J_if_le (tgt := 35) hC dX11_printName_5 (by decide) (fun _ => ?_) (fun c => absurd (by decide) c)
          refine J_vret hC hR dX11_printName_35 () ?_ ?_ (by decide) (by decide)
          · trivial
          · refine congrArg (fun z => mdW G m (outW M z)) ?_
            rw [w_nam, show w_l1 z 19683 _ = _ from if_pos c_16, show w_l1 z 729 _ = _ from if_pos c_16_1, show w_l1 z 27 _ = _ from if_neg (Nat.not_lt.mpr (Nat.le_of_eq c_16_2)), show w_l1 z 1 _ = _ from if_pos c_16_3]
      · refine J_aload_n hC dX11_printName_19 2 rfl rfl ?_
        refine J_bipush (v := 96) hC dX11_printName_20 (by decide +kernel) ?_
        refine J_iload_n hC dX11_printName_22 0 rfl rfl ?_
        refine J_iadd (v := nI (96 + ((z / 27) % 27))) hC dX11_printName_23 (nI_add 96 ((z / 27) % 27)) ?_
        refine J_callVv hC dX11_printName_24 wl_X11_312 yi_X11_put (c_X11_put _ G m M (w_put (nI (96 + ((z / 729) % 27))) (w_put (nI (96 + ((z / 19683) % 27))) q)) (nI (96 + ((z / 27) % 27))) (Nat.lt_of_lt_of_le (Nat.add_lt_add_left (show 2 < 4 by decide) q.2) hq)) rfl rfl 0 11 rfl rfl ⟨Nat.le_of_ble_eq_true rfl, Nat.le_of_ble_eq_true rfl⟩ (Nat.le_of_ble_eq_true rfl) (Nat.le_of_ble_eq_true rfl) (Nat.le_of_ble_eq_true rfl) (fun _ _ => ?_)
        refine J_iload_n hC dX11_printName_27 1 rfl rfl ?_
        refine J_bipush (v := 27) hC dX11_printName_28 (by decide +kernel) ?_
        refine J_idiv (v := 1) hC dX11_printName_30 (by decide) (by decide) ?_
        refine J_istore_n hC [(2, .int 1), (3, .int (nI ((z / 27) % 27))), (0, .ref (m 0)), (1, .int (nI z))] dX11_printName_31 rfl (by decide) rfl ?_
        refine J_goto (tgt := 4) hC dX11_printName_32 (by decide) ?_
        refine J_iload_n hC dX11_printName_4 0 rfl rfl ?_
        refine J_if_le (tgt := 35) hC dX11_printName_5 (by decide) (fun c => absurd c (by decide)) (fun _ => ?_)
        refine J_iload_n hC dX11_printName_8 3 rfl rfl ?_
        refine J_iload_n hC dX11_printName_9 0 rfl rfl ?_
        refine J_idiv (v := nI (z / 1)) hC dX11_printName_10 (by decide) (pk_div (a := z) (d := 1) (by first | exact hx31 | decide | exact lt31_div hx31 | exact lt31_mod (lt31_div hx31)) (by first | exact hx31 | decide | exact lt31_div hx31 | exact lt31_mod (lt31_div hx31)) (by first | exact hx31 | decide | exact lt31_div hx31 | exact lt31_mod (lt31_div hx31))) ?_
        refine J_bipush (v := 27) hC dX11_printName_11 (by decide +kernel) ?_
        refine J_irem (v := nI ((z / 1) % 27)) hC dX11_printName_13 (by decide) (pk_rem (a := (z / 1)) (d := 27) (by first | exact hx31 | decide | exact lt31_div hx31 | exact lt31_mod (lt31_div hx31)) (by first | exact hx31 | decide | exact lt31_div hx31 | exact lt31_mod (lt31_div hx31)) (by first | exact hx31 | decide | exact lt31_div hx31 | exact lt31_mod (lt31_div hx31))) ?_
        refine J_istore_n hC [(3, .int (nI ((z / 1) % 27))), (2, .int 1), (0, .ref (m 0)), (1, .int (nI z))] dX11_printName_14 rfl (by decide) rfl ?_
        refine J_iload_n hC dX11_printName_15 0 rfl rfl ?_
        refine J_if_leN (a := (z / 1) % 27) (tgt := 27) hC dX11_printName_16 (by decide) (by first | exact hx31 | decide | exact lt31_div hx31 | exact lt31_mod (lt31_div hx31)) (fun (c_16_3 : ((z / 1) % 27) = 0) => ?_) (fun (c_16_3 : 0 < ((z / 1) % 27)) => ?_)
        · refine J_iload_n hC dX11_printName_27 1 rfl rfl ?_
          refine J_bipush (v := 27) hC dX11_printName_28 (by decide +kernel) ?_
          refine J_idiv (v := 0) hC dX11_printName_30 (by decide) (by decide) ?_
          refine J_istore_n hC [(2, .int 0), (3, .int (nI ((z / 1) % 27))), (0, .ref (m 0)), (1, .int (nI z))] dX11_printName_31 rfl (by decide) rfl ?_
          refine J_goto (tgt := 4) hC dX11_printName_32 (by decide) ?_
          refine J_iload_n hC dX11_printName_4 0 rfl rfl ?_
          refine J_if_le (tgt := 35) hC dX11_printName_5 (by decide) (fun _ => ?_) (fun c => absurd (by decide) c)
          refine J_vret hC hR dX11_printName_35 () ?_ ?_ (by decide) (by decide)
          · trivial
          · refine congrArg (fun z => mdW G m (outW M z)) ?_
            rw [w_nam, show w_l1 z 19683 _ = _ from if_pos c_16, show w_l1 z 729 _ = _ from if_pos c_16_1, show w_l1 z 27 _ = _ from if_pos c_16_2, show w_l1 z 1 _ = _ from if_neg (Nat.not_lt.mpr (Nat.le_of_eq c_16_3))]
        · refine J_aload_n hC dX11_printName_19 2 rfl rfl ?_
          refine J_bipush (v := 96) hC dX11_printName_20 (by decide +kernel) ?_
          refine J_iload_n hC dX11_printName_22 0 rfl rfl ?_
          refine J_iadd (v := nI (96 + ((z / 1) % 27))) hC dX11_printName_23 (nI_add 96 ((z / 1) % 27)) ?_
          refine J_callVv hC dX11_printName_24 wl_X11_312 yi_X11_put (c_X11_put _ G m M (w_put (nI (96 + ((z / 27) % 27))) (w_put (nI (96 + ((z / 729) % 27))) (w_put (nI (96 + ((z / 19683) % 27))) q))) (nI (96 + ((z / 1) % 27))) (Nat.lt_of_lt_of_le (Nat.add_lt_add_left (show 3 < 4 by decide) q.2) hq)) rfl rfl 0 11 rfl rfl ⟨Nat.le_of_ble_eq_true rfl, Nat.le_of_ble_eq_true rfl⟩ (Nat.le_of_ble_eq_true rfl) (Nat.le_of_ble_eq_true rfl) (Nat.le_of_ble_eq_true rfl) (fun _ _ => ?_)
          refine J_iload_n hC dX11_printName_27 1 rfl rfl ?_
          refine J_bipush (v := 27) hC dX11_printName_28 (by decide +kernel) ?_
          refine J_idiv (v := 0) hC dX11_printName_30 (by decide) (by decide) ?_
          refine J_istore_n hC [(2, .int 0), (3, .int (nI ((z / 1) % 27))), (0, .ref (m 0)), (1, .int (nI z))] dX11_printName_31 rfl (by decide) rfl ?_
          refine J_goto (tgt := 4) hC dX11_printName_32 (by decide) ?_
          refine J_iload_n hC dX11_printName_4 0 rfl rfl ?_
          refine J_if_le (tgt := 35) hC dX11_printName_5 (by decide) (fun _ => ?_) (fun c => absurd (by decide) c)
          refine J_vret hC hR dX11_printName_35 () ?_ ?_ (by decide) (by decide)
          · trivial
          · refine congrArg (fun z => mdW G m (outW M z)) ?_
            rw [w_nam, show w_l1 z 19683 _ = _ from if_pos c_16, show w_l1 z 729 _ = _ from if_pos c_16_1, show w_l1 z 27 _ = _ from if_pos c_16_2, show w_l1 z 1 _ = _ from if_pos c_16_3]

set_option maxRecDepth 100000 in
set_option maxHeartbeats 4000000 in
theorem c_X11_printNumber (l : Launch) (G : gT) (m : Nat → Nat) (M : CT) (q : RT × Nat) (z : Nat) (hx : z ≤ 1000000) (hq : q.2 + 10 ≤ 80) : MV l yX11_printNumber cX11_printNumber 4 { frames := 1, cells := 0, slots := 0, locals := 21 } [.ref (m 0), .int (nI z)] G (mdW G m (outW M q)) (fun (_ : Unit) => True) (fun _ => mdW G m (outW M (w_dec z q))) := by
  refine jm_v (own := RX11) (by decide) rfl (Nat.le_of_ble_eq_true rfl) (fun x hl hC hR hN => ?_)
  subst hl
  have hx31 : z < 2 ^ 31 := Nat.lt_of_le_of_lt hx (by decide)
  refine J_iconst (v := 1) hC dX11_printNumber_0 rfl ?_
  refine J_istore_n hC [(2, .int 1), (0, .ref (m 0)), (1, .int (nI z))] dX11_printNumber_1 rfl (by decide) rfl ?_
  refine J_iload_n hC dX11_printNumber_2 2 rfl rfl ?_
  refine J_iload_n hC dX11_printNumber_3 0 rfl rfl ?_
  refine J_idiv (v := nI (z / 1)) hC dX11_printNumber_4 (by decide) (pk_div (a := z) (d := 1) (by first | exact hx31 | decide | exact lt31_div hx31 | exact lt31_mod (lt31_div hx31)) (by first | exact hx31 | decide | exact lt31_div hx31 | exact lt31_mod (lt31_div hx31)) (by first | exact hx31 | decide | exact lt31_div hx31 | exact lt31_mod (lt31_div hx31))) ?_
  refine J_bipush (v := 9) hC dX11_printNumber_5 (by decide +kernel) ?_
  refine J_ic_leN (a := z / 1) (b := 9) (tgt := 18) hC dX11_printNumber_7 (by decide) (by first | exact hx31 | decide | exact lt31_div hx31 | exact lt31_mod (lt31_div hx31)) (by first | exact hx31 | decide | exact lt31_div hx31 | exact lt31_mod (lt31_div hx31)) (fun (c_7 : (z / 1) ≤ 9) => ?_) (fun (c_7 : 9 < (z / 1)) => ?_)
  · refine J_iload_n hC dX11_printNumber_18 0 rfl rfl ?_
    refine J_istore_n hC [(3, .int 1), (2, .int 1), (0, .ref (m 0)), (1, .int (nI z))] dX11_printNumber_19 rfl (by decide) rfl ?_
    refine J_iload_n hC dX11_printNumber_20 0 rfl rfl ?_
    refine J_if_le (tgt := 45) hC dX11_printNumber_21 (by decide) (fun c => absurd c (by decide)) (fun _ => ?_)
    refine J_aload_n hC dX11_printNumber_24 2 rfl rfl ?_
    refine J_bipush (v := 48) hC dX11_printNumber_25 (by decide +kernel) ?_
    refine J_iload_n hC dX11_printNumber_27 3 rfl rfl ?_
    refine J_iload_n hC dX11_printNumber_28 0 rfl rfl ?_
    refine J_idiv (v := nI (z / 1)) hC dX11_printNumber_29 (by decide) (pk_div (a := z) (d := 1) (by first | exact hx31 | decide | exact lt31_div hx31 | exact lt31_mod (lt31_div hx31)) (by first | exact hx31 | decide | exact lt31_div hx31 | exact lt31_mod (lt31_div hx31)) (by first | exact hx31 | decide | exact lt31_div hx31 | exact lt31_mod (lt31_div hx31))) ?_
    refine J_bipush (v := 10) hC dX11_printNumber_30 (by decide +kernel) ?_
    refine J_irem (v := nI ((z / 1) % 10)) hC dX11_printNumber_32 (by decide) (pk_rem (a := (z / 1)) (d := 10) (by first | exact hx31 | decide | exact lt31_div hx31 | exact lt31_mod (lt31_div hx31)) (by first | exact hx31 | decide | exact lt31_div hx31 | exact lt31_mod (lt31_div hx31)) (by first | exact hx31 | decide | exact lt31_div hx31 | exact lt31_mod (lt31_div hx31))) ?_
    refine J_iadd (v := nI (48 + ((z / 1) % 10))) hC dX11_printNumber_33 (nI_add 48 ((z / 1) % 10)) ?_
    refine J_callVv hC dX11_printNumber_34 wl_X11_312 yi_X11_put (c_X11_put _ G m M q (nI (48 + ((z / 1) % 10))) (Nat.lt_of_lt_of_le (Nat.add_lt_add_left (show 0 < 10 by decide) q.2) hq)) rfl rfl 0 11 rfl rfl ⟨Nat.le_of_ble_eq_true rfl, Nat.le_of_ble_eq_true rfl⟩ (Nat.le_of_ble_eq_true rfl) (Nat.le_of_ble_eq_true rfl) (Nat.le_of_ble_eq_true rfl) (fun _ _ => ?_)
    refine J_iload_n hC dX11_printNumber_37 0 rfl rfl ?_
    refine J_bipush (v := 10) hC dX11_printNumber_38 (by decide +kernel) ?_
    refine J_idiv (v := 0) hC dX11_printNumber_40 (by decide) (by decide) ?_
    refine J_istore_n hC [(3, .int 0), (2, .int 1), (0, .ref (m 0)), (1, .int (nI z))] dX11_printNumber_41 rfl (by decide) rfl ?_
    refine J_goto (tgt := 20) hC dX11_printNumber_42 (by decide) ?_
    refine J_iload_n hC dX11_printNumber_20 0 rfl rfl ?_
    refine J_if_le (tgt := 45) hC dX11_printNumber_21 (by decide) (fun _ => ?_) (fun c => absurd (by decide) c)
    refine J_vret hC hR dX11_printNumber_45 () ?_ ?_ (by decide) (by decide)
    · trivial
    · refine congrArg (fun z => mdW G m (outW M z)) ?_
      rw [w_dec, w_units, List.foldl_cons, if_neg (fun h => h.elim (dig_lt c_7 (by decide) (by decide)) (by decide)), List.foldl_cons, if_neg (fun h => h.elim (dig_lt c_7 (by decide) (by decide)) (by decide)), List.foldl_cons, if_neg (fun h => h.elim (dig_lt c_7 (by decide) (by decide)) (by decide)), List.foldl_cons, if_neg (fun h => h.elim (dig_lt c_7 (by decide) (by decide)) (by decide)), List.foldl_cons, if_neg (fun h => h.elim (dig_lt c_7 (by decide) (by decide)) (by decide)), List.foldl_cons, if_neg (fun h => h.elim (dig_lt c_7 (by decide) (by decide)) (by decide)), List.foldl_cons, if_neg (fun h => h.elim (dig_lt c_7 (by decide) (by decide)) (by decide)), List.foldl_cons, if_neg (fun h => h.elim (dig_lt c_7 (by decide) (by decide)) (by decide)), List.foldl_cons, if_neg (fun h => h.elim (dig_lt c_7 (by decide) (by decide)) (by decide)), List.foldl_cons, if_pos (Or.inr rfl), List.foldl_nil]
  · refine J_iload_n hC dX11_printNumber_10 0 rfl rfl ?_
    refine J_bipush (v := 10) hC dX11_printNumber_11 (by decide +kernel) ?_
    refine J_imul (v := 10) hC dX11_printNumber_13 (by decide) ?_
    refine J_istore_n hC [(2, .int 10), (0, .ref (m 0)), (1, .int (nI z))] dX11_printNumber_14 rfl (by decide) rfl ?_
    refine J_goto (tgt := 2) hC dX11_printNumber_15 (by decide) ?_
    refine J_iload_n hC dX11_printNumber_2 2 rfl rfl ?_
    refine J_iload_n hC dX11_printNumber_3 0 rfl rfl ?_
    refine J_idiv (v := nI (z / 10)) hC dX11_printNumber_4 (by decide) (pk_div (a := z) (d := 10) (by first | exact hx31 | decide | exact lt31_div hx31 | exact lt31_mod (lt31_div hx31)) (by first | exact hx31 | decide | exact lt31_div hx31 | exact lt31_mod (lt31_div hx31)) (by first | exact hx31 | decide | exact lt31_div hx31 | exact lt31_mod (lt31_div hx31))) ?_
    refine J_bipush (v := 9) hC dX11_printNumber_5 (by decide +kernel) ?_
    refine J_ic_leN (a := z / 10) (b := 9) (tgt := 18) hC dX11_printNumber_7 (by decide) (by first | exact hx31 | decide | exact lt31_div hx31 | exact lt31_mod (lt31_div hx31)) (by first | exact hx31 | decide | exact lt31_div hx31 | exact lt31_mod (lt31_div hx31)) (fun (c_7_1 : (z / 10) ≤ 9) => ?_) (fun (c_7_1 : 9 < (z / 10)) => ?_)
    · refine J_iload_n hC dX11_printNumber_18 0 rfl rfl ?_
      refine J_istore_n hC [(3, .int 10), (2, .int 10), (0, .ref (m 0)), (1, .int (nI z))] dX11_printNumber_19 rfl (by decide) rfl ?_
      refine J_iload_n hC dX11_printNumber_20 0 rfl rfl ?_
      refine J_if_le (tgt := 45) hC dX11_printNumber_21 (by decide) (fun c => absurd c (by decide)) (fun _ => ?_)
      refine J_aload_n hC dX11_printNumber_24 2 rfl rfl ?_
      refine J_bipush (v := 48) hC dX11_printNumber_25 (by decide +kernel) ?_
      refine J_iload_n hC dX11_printNumber_27 3 rfl rfl ?_
      refine J_iload_n hC dX11_printNumber_28 0 rfl rfl ?_
      refine J_idiv (v := nI (z / 10)) hC dX11_printNumber_29 (by decide) (pk_div (a := z) (d := 10) (by first | exact hx31 | decide | exact lt31_div hx31 | exact lt31_mod (lt31_div hx31)) (by first | exact hx31 | decide | exact lt31_div hx31 | exact lt31_mod (lt31_div hx31)) (by first | exact hx31 | decide | exact lt31_div hx31 | exact lt31_mod (lt31_div hx31))) ?_
      refine J_bipush (v := 10) hC dX11_printNumber_30 (by decide +kernel) ?_
      refine J_irem (v := nI ((z / 10) % 10)) hC dX11_printNumber_32 (by decide) (pk_rem (a := (z / 10)) (d := 10) (by first | exact hx31 | decide | exact lt31_div hx31 | exact lt31_mod (lt31_div hx31)) (by first | exact hx31 | decide | exact lt31_div hx31 | exact lt31_mod (lt31_div hx31)) (by first | exact hx31 | decide | exact lt31_div hx31 | exact lt31_mod (lt31_div hx31))) ?_
      refine J_iadd (v := nI (48 + ((z / 10) % 10))) hC dX11_printNumber_33 (nI_add 48 ((z / 10) % 10)) ?_
      refine J_callVv hC dX11_printNumber_34 wl_X11_312 yi_X11_put (c_X11_put _ G m M q (nI (48 + ((z / 10) % 10))) (Nat.lt_of_lt_of_le (Nat.add_lt_add_left (show 0 < 10 by decide) q.2) hq)) rfl rfl 0 11 rfl rfl ⟨Nat.le_of_ble_eq_true rfl, Nat.le_of_ble_eq_true rfl⟩ (Nat.le_of_ble_eq_true rfl) (Nat.le_of_ble_eq_true rfl) (Nat.le_of_ble_eq_true rfl) (fun _ _ => ?_)
      refine J_iload_n hC dX11_printNumber_37 0 rfl rfl ?_
      refine J_bipush (v := 10) hC dX11_printNumber_38 (by decide +kernel) ?_
      refine J_idiv (v := 1) hC dX11_printNumber_40 (by decide) (by decide) ?_
      refine J_istore_n hC [(3, .int 1), (2, .int 10), (0, .ref (m 0)), (1, .int (nI z))] dX11_printNumber_41 rfl (by decide) rfl ?_
      refine J_goto (tgt := 20) hC dX11_printNumber_42 (by decide) ?_
      refine J_iload_n hC dX11_printNumber_20 0 rfl rfl ?_
      refine J_if_le (tgt := 45) hC dX11_printNumber_21 (by decide) (fun c => absurd c (by decide)) (fun _ => ?_)
      refine J_aload_n hC dX11_printNumber_24 2 rfl rfl ?_
      refine J_bipush (v := 48) hC dX11_printNumber_25 (by decide +kernel) ?_
      refine J_iload_n hC dX11_printNumber_27 3 rfl rfl ?_
      refine J_iload_n hC dX11_printNumber_28 0 rfl rfl ?_
      refine J_idiv (v := nI (z / 1)) hC dX11_printNumber_29 (by decide) (pk_div (a := z) (d := 1) (by first | exact hx31 | decide | exact lt31_div hx31 | exact lt31_mod (lt31_div hx31)) (by first | exact hx31 | decide | exact lt31_div hx31 | exact lt31_mod (lt31_div hx31)) (by first | exact hx31 | decide | exact lt31_div hx31 | exact lt31_mod (lt31_div hx31))) ?_
      refine J_bipush (v := 10) hC dX11_printNumber_30 (by decide +kernel) ?_
      refine J_irem (v := nI ((z / 1) % 10)) hC dX11_printNumber_32 (by decide) (pk_rem (a := (z / 1)) (d := 10) (by first | exact hx31 | decide | exact lt31_div hx31 | exact lt31_mod (lt31_div hx31)) (by first | exact hx31 | decide | exact lt31_div hx31 | exact lt31_mod (lt31_div hx31)) (by first | exact hx31 | decide | exact lt31_div hx31 | exact lt31_mod (lt31_div hx31))) ?_
      refine J_iadd (v := nI (48 + ((z / 1) % 10))) hC dX11_printNumber_33 (nI_add 48 ((z / 1) % 10)) ?_
      refine J_callVv hC dX11_printNumber_34 wl_X11_312 yi_X11_put (c_X11_put _ G m M (w_put (nI (48 + ((z / 10) % 10))) q) (nI (48 + ((z / 1) % 10))) (Nat.lt_of_lt_of_le (Nat.add_lt_add_left (show 1 < 10 by decide) q.2) hq)) rfl rfl 0 11 rfl rfl ⟨Nat.le_of_ble_eq_true rfl, Nat.le_of_ble_eq_true rfl⟩ (Nat.le_of_ble_eq_true rfl) (Nat.le_of_ble_eq_true rfl) (Nat.le_of_ble_eq_true rfl) (fun _ _ => ?_)
      refine J_iload_n hC dX11_printNumber_37 0 rfl rfl ?_
      refine J_bipush (v := 10) hC dX11_printNumber_38 (by decide +kernel) ?_
      refine J_idiv (v := 0) hC dX11_printNumber_40 (by decide) (by decide) ?_
      refine J_istore_n hC [(3, .int 0), (2, .int 10), (0, .ref (m 0)), (1, .int (nI z))] dX11_printNumber_41 rfl (by decide) rfl ?_
      refine J_goto (tgt := 20) hC dX11_printNumber_42 (by decide) ?_
      refine J_iload_n hC dX11_printNumber_20 0 rfl rfl ?_
      refine J_if_le (tgt := 45) hC dX11_printNumber_21 (by decide) (fun _ => ?_) (fun c => absurd (by decide) c)
      refine J_vret hC hR dX11_printNumber_45 () ?_ ?_ (by decide) (by decide)
      · trivial
      · refine congrArg (fun z => mdW G m (outW M z)) ?_
        rw [w_dec, w_units, List.foldl_cons, if_neg (fun h => h.elim (dig_lt c_7_1 (by decide) (by decide)) (by decide)), List.foldl_cons, if_neg (fun h => h.elim (dig_lt c_7_1 (by decide) (by decide)) (by decide)), List.foldl_cons, if_neg (fun h => h.elim (dig_lt c_7_1 (by decide) (by decide)) (by decide)), List.foldl_cons, if_neg (fun h => h.elim (dig_lt c_7_1 (by decide) (by decide)) (by decide)), List.foldl_cons, if_neg (fun h => h.elim (dig_lt c_7_1 (by decide) (by decide)) (by decide)), List.foldl_cons, if_neg (fun h => h.elim (dig_lt c_7_1 (by decide) (by decide)) (by decide)), List.foldl_cons, if_neg (fun h => h.elim (dig_lt c_7_1 (by decide) (by decide)) (by decide)), List.foldl_cons, if_neg (fun h => h.elim (dig_lt c_7_1 (by decide) (by decide)) (by decide)), List.foldl_cons, if_pos (Or.inl (dig_ge c_7 (by decide))), List.foldl_cons, if_pos (Or.inr rfl), List.foldl_nil]
    · refine J_iload_n hC dX11_printNumber_10 0 rfl rfl ?_
      refine J_bipush (v := 10) hC dX11_printNumber_11 (by decide +kernel) ?_
      refine J_imul (v := 100) hC dX11_printNumber_13 (by decide) ?_
      refine J_istore_n hC [(2, .int 100), (0, .ref (m 0)), (1, .int (nI z))] dX11_printNumber_14 rfl (by decide) rfl ?_
      refine J_goto (tgt := 2) hC dX11_printNumber_15 (by decide) ?_
      refine J_iload_n hC dX11_printNumber_2 2 rfl rfl ?_
      refine J_iload_n hC dX11_printNumber_3 0 rfl rfl ?_
      refine J_idiv (v := nI (z / 100)) hC dX11_printNumber_4 (by decide) (pk_div (a := z) (d := 100) (by first | exact hx31 | decide | exact lt31_div hx31 | exact lt31_mod (lt31_div hx31)) (by first | exact hx31 | decide | exact lt31_div hx31 | exact lt31_mod (lt31_div hx31)) (by first | exact hx31 | decide | exact lt31_div hx31 | exact lt31_mod (lt31_div hx31))) ?_
      refine J_bipush (v := 9) hC dX11_printNumber_5 (by decide +kernel) ?_
      refine J_ic_leN (a := z / 100) (b := 9) (tgt := 18) hC dX11_printNumber_7 (by decide) (by first | exact hx31 | decide | exact lt31_div hx31 | exact lt31_mod (lt31_div hx31)) (by first | exact hx31 | decide | exact lt31_div hx31 | exact lt31_mod (lt31_div hx31)) (fun (c_7_2 : (z / 100) ≤ 9) => ?_) (fun (c_7_2 : 9 < (z / 100)) => ?_)
      · refine J_iload_n hC dX11_printNumber_18 0 rfl rfl ?_
        refine J_istore_n hC [(3, .int 100), (2, .int 100), (0, .ref (m 0)), (1, .int (nI z))] dX11_printNumber_19 rfl (by decide) rfl ?_
        refine J_iload_n hC dX11_printNumber_20 0 rfl rfl ?_
        refine J_if_le (tgt := 45) hC dX11_printNumber_21 (by decide) (fun c => absurd c (by decide)) (fun _ => ?_)
        refine J_aload_n hC dX11_printNumber_24 2 rfl rfl ?_
        refine J_bipush (v := 48) hC dX11_printNumber_25 (by decide +kernel) ?_
        refine J_iload_n hC dX11_printNumber_27 3 rfl rfl ?_
        refine J_iload_n hC dX11_printNumber_28 0 rfl rfl ?_
        refine J_idiv (v := nI (z / 100)) hC dX11_printNumber_29 (by decide) (pk_div (a := z) (d := 100) (by first | exact hx31 | decide | exact lt31_div hx31 | exact lt31_mod (lt31_div hx31)) (by first | exact hx31 | decide | exact lt31_div hx31 | exact lt31_mod (lt31_div hx31)) (by first | exact hx31 | decide | exact lt31_div hx31 | exact lt31_mod (lt31_div hx31))) ?_
        refine J_bipush (v := 10) hC dX11_printNumber_30 (by decide +kernel) ?_
        refine J_irem (v := nI ((z / 100) % 10)) hC dX11_printNumber_32 (by decide) (pk_rem (a := (z / 100)) (d := 10) (by first | exact hx31 | decide | exact lt31_div hx31 | exact lt31_mod (lt31_div hx31)) (by first | exact hx31 | decide | exact lt31_div hx31 | exact lt31_mod (lt31_div hx31)) (by first | exact hx31 | decide | exact lt31_div hx31 | exact lt31_mod (lt31_div hx31))) ?_
        refine J_iadd (v := nI (48 + ((z / 100) % 10))) hC dX11_printNumber_33 (nI_add 48 ((z / 100) % 10)) ?_
        refine J_callVv hC dX11_printNumber_34 wl_X11_312 yi_X11_put (c_X11_put _ G m M q (nI (48 + ((z / 100) % 10))) (Nat.lt_of_lt_of_le (Nat.add_lt_add_left (show 0 < 10 by decide) q.2) hq)) rfl rfl 0 11 rfl rfl ⟨Nat.le_of_ble_eq_true rfl, Nat.le_of_ble_eq_true rfl⟩ (Nat.le_of_ble_eq_true rfl) (Nat.le_of_ble_eq_true rfl) (Nat.le_of_ble_eq_true rfl) (fun _ _ => ?_)
        refine J_iload_n hC dX11_printNumber_37 0 rfl rfl ?_
        refine J_bipush (v := 10) hC dX11_printNumber_38 (by decide +kernel) ?_
        refine J_idiv (v := 10) hC dX11_printNumber_40 (by decide) (by decide) ?_
        refine J_istore_n hC [(3, .int 10), (2, .int 100), (0, .ref (m 0)), (1, .int (nI z))] dX11_printNumber_41 rfl (by decide) rfl ?_
        refine J_goto (tgt := 20) hC dX11_printNumber_42 (by decide) ?_
        refine J_iload_n hC dX11_printNumber_20 0 rfl rfl ?_
        refine J_if_le (tgt := 45) hC dX11_printNumber_21 (by decide) (fun c => absurd c (by decide)) (fun _ => ?_)
        refine J_aload_n hC dX11_printNumber_24 2 rfl rfl ?_
        refine J_bipush (v := 48) hC dX11_printNumber_25 (by decide +kernel) ?_
        refine J_iload_n hC dX11_printNumber_27 3 rfl rfl ?_
        refine J_iload_n hC dX11_printNumber_28 0 rfl rfl ?_
        refine J_idiv (v := nI (z / 10)) hC dX11_printNumber_29 (by decide) (pk_div (a := z) (d := 10) (by first | exact hx31 | decide | exact lt31_div hx31 | exact lt31_mod (lt31_div hx31)) (by first | exact hx31 | decide | exact lt31_div hx31 | exact lt31_mod (lt31_div hx31)) (by first | exact hx31 | decide | exact lt31_div hx31 | exact lt31_mod (lt31_div hx31))) ?_
        refine J_bipush (v := 10) hC dX11_printNumber_30 (by decide +kernel) ?_
        refine J_irem (v := nI ((z / 10) % 10)) hC dX11_printNumber_32 (by decide) (pk_rem (a := (z / 10)) (d := 10) (by first | exact hx31 | decide | exact lt31_div hx31 | exact lt31_mod (lt31_div hx31)) (by first | exact hx31 | decide | exact lt31_div hx31 | exact lt31_mod (lt31_div hx31)) (by first | exact hx31 | decide | exact lt31_div hx31 | exact lt31_mod (lt31_div hx31))) ?_
        refine J_iadd (v := nI (48 + ((z / 10) % 10))) hC dX11_printNumber_33 (nI_add 48 ((z / 10) % 10)) ?_
        refine J_callVv hC dX11_printNumber_34 wl_X11_312 yi_X11_put (c_X11_put _ G m M (w_put (nI (48 + ((z / 100) % 10))) q) (nI (48 + ((z / 10) % 10))) (Nat.lt_of_lt_of_le (Nat.add_lt_add_left (show 1 < 10 by decide) q.2) hq)) rfl rfl 0 11 rfl rfl ⟨Nat.le_of_ble_eq_true rfl, Nat.le_of_ble_eq_true rfl⟩ (Nat.le_of_ble_eq_true rfl) (Nat.le_of_ble_eq_true rfl) (Nat.le_of_ble_eq_true rfl) (fun _ _ => ?_)
        refine J_iload_n hC dX11_printNumber_37 0 rfl rfl ?_
        refine J_bipush (v := 10) hC dX11_printNumber_38 (by decide +kernel) ?_
        refine J_idiv (v := 1) hC dX11_printNumber_40 (by decide) (by decide) ?_
        refine J_istore_n hC [(3, .int 1), (2, .int 100), (0, .ref (m 0)), (1, .int (nI z))] dX11_printNumber_41 rfl (by decide) rfl ?_
        refine J_goto (tgt := 20) hC dX11_printNumber_42 (by decide) ?_
        refine J_iload_n hC dX11_printNumber_20 0 rfl rfl ?_
        refine J_if_le (tgt := 45) hC dX11_printNumber_21 (by decide) (fun c => absurd c (by decide)) (fun _ => ?_)
        refine J_aload_n hC dX11_printNumber_24 2 rfl rfl ?_
        refine J_bipush (v := 48) hC dX11_printNumber_25 (by decide +kernel) ?_
        refine J_iload_n hC dX11_printNumber_27 3 rfl rfl ?_
        refine J_iload_n hC dX11_printNumber_28 0 rfl rfl ?_
        refine J_idiv (v := nI (z / 1)) hC dX11_printNumber_29 (by decide) (pk_div (a := z) (d := 1) (by first | exact hx31 | decide | exact lt31_div hx31 | exact lt31_mod (lt31_div hx31)) (by first | exact hx31 | decide | exact lt31_div hx31 | exact lt31_mod (lt31_div hx31)) (by first | exact hx31 | decide | exact lt31_div hx31 | exact lt31_mod (lt31_div hx31))) ?_
        refine J_bipush (v := 10) hC dX11_printNumber_30 (by decide +kernel) ?_
        refine J_irem (v := nI ((z / 1) % 10)) hC dX11_printNumber_32 (by decide) (pk_rem (a := (z / 1)) (d := 10) (by first | exact hx31 | decide | exact lt31_div hx31 | exact lt31_mod (lt31_div hx31)) (by first | exact hx31 | decide | exact lt31_div hx31 | exact lt31_mod (lt31_div hx31)) (by first | exact hx31 | decide | exact lt31_div hx31 | exact lt31_mod (lt31_div hx31))) ?_
        refine J_iadd (v := nI (48 + ((z / 1) % 10))) hC dX11_printNumber_33 (nI_add 48 ((z / 1) % 10)) ?_
        refine J_callVv hC dX11_printNumber_34 wl_X11_312 yi_X11_put (c_X11_put _ G m M (w_put (nI (48 + ((z / 10) % 10))) (w_put (nI (48 + ((z / 100) % 10))) q)) (nI (48 + ((z / 1) % 10))) (Nat.lt_of_lt_of_le (Nat.add_lt_add_left (show 2 < 10 by decide) q.2) hq)) rfl rfl 0 11 rfl rfl ⟨Nat.le_of_ble_eq_true rfl, Nat.le_of_ble_eq_true rfl⟩ (Nat.le_of_ble_eq_true rfl) (Nat.le_of_ble_eq_true rfl) (Nat.le_of_ble_eq_true rfl) (fun _ _ => ?_)
        refine J_iload_n hC dX11_printNumber_37 0 rfl rfl ?_
        refine J_bipush (v := 10) hC dX11_printNumber_38 (by decide +kernel) ?_
        refine J_idiv (v := 0) hC dX11_printNumber_40 (by decide) (by decide) ?_
        refine J_istore_n hC [(3, .int 0), (2, .int 100), (0, .ref (m 0)), (1, .int (nI z))] dX11_printNumber_41 rfl (by decide) rfl ?_
        refine J_goto (tgt := 20) hC dX11_printNumber_42 (by decide) ?_
        refine J_iload_n hC dX11_printNumber_20 0 rfl rfl ?_
        refine J_if_le (tgt := 45) hC dX11_printNumber_21 (by decide) (fun _ => ?_) (fun c => absurd (by decide) c)
        refine J_vret hC hR dX11_printNumber_45 () ?_ ?_ (by decide) (by decide)
        · trivial
        · refine congrArg (fun z => mdW G m (outW M z)) ?_
          rw [w_dec, w_units, List.foldl_cons, if_neg (fun h => h.elim (dig_lt c_7_2 (by decide) (by decide)) (by decide)), List.foldl_cons, if_neg (fun h => h.elim (dig_lt c_7_2 (by decide) (by decide)) (by decide)), List.foldl_cons, if_neg (fun h => h.elim (dig_lt c_7_2 (by decide) (by decide)) (by decide)), List.foldl_cons, if_neg (fun h => h.elim (dig_lt c_7_2 (by decide) (by decide)) (by decide)), List.foldl_cons, if_neg (fun h => h.elim (dig_lt c_7_2 (by decide) (by decide)) (by decide)), List.foldl_cons, if_neg (fun h => h.elim (dig_lt c_7_2 (by decide) (by decide)) (by decide)), List.foldl_cons, if_neg (fun h => h.elim (dig_lt c_7_2 (by decide) (by decide)) (by decide)), List.foldl_cons, if_pos (Or.inl (dig_ge c_7_1 (by decide))), List.foldl_cons, if_pos (Or.inl (dig_ge c_7_1 (by decide))), List.foldl_cons, if_pos (Or.inr rfl), List.foldl_nil]
      · refine J_iload_n hC dX11_printNumber_10 0 rfl rfl ?_
        refine J_bipush (v := 10) hC dX11_printNumber_11 (by decide +kernel) ?_
        refine J_imul (v := 1000) hC dX11_printNumber_13 (by decide) ?_
        refine J_istore_n hC [(2, .int 1000), (0, .ref (m 0)), (1, .int (nI z))] dX11_printNumber_14 rfl (by decide) rfl ?_
        refine J_goto (tgt := 2) hC dX11_printNumber_15 (by decide) ?_
        refine J_iload_n hC dX11_printNumber_2 2 rfl rfl ?_
        refine J_iload_n hC dX11_printNumber_3 0 rfl rfl ?_
        refine J_idiv (v := nI (z / 1000)) hC dX11_printNumber_4 (by decide) (pk_div (a := z) (d := 1000) (by first | exact hx31 | decide | exact lt31_div hx31 | exact lt31_mod (lt31_div hx31)) (by first | exact hx31 | decide | exact lt31_div hx31 | exact lt31_mod (lt31_div hx31)) (by first | exact hx31 | decide | exact lt31_div hx31 | exact lt31_mod (lt31_div hx31))) ?_
        refine J_bipush (v := 9) hC dX11_printNumber_5 (by decide +kernel) ?_
        refine J_ic_leN (a := z / 1000) (b := 9) (tgt := 18) hC dX11_printNumber_7 (by decide) (by first | exact hx31 | decide | exact lt31_div hx31 | exact lt31_mod (lt31_div hx31)) (by first | exact hx31 | decide | exact lt31_div hx31 | exact lt31_mod (lt31_div hx31)) (fun (c_7_3 : (z / 1000) ≤ 9) => ?_) (fun (c_7_3 : 9 < (z / 1000)) => ?_)
        · refine J_iload_n hC dX11_printNumber_18 0 rfl rfl ?_
          refine J_istore_n hC [(3, .int 1000), (2, .int 1000), (0, .ref (m 0)), (1, .int (nI z))] dX11_printNumber_19 rfl (by decide) rfl ?_
          refine J_iload_n hC dX11_printNumber_20 0 rfl rfl ?_
          refine J_if_le (tgt := 45) hC dX11_printNumber_21 (by decide) (fun c => absurd c (by decide)) (fun _ => ?_)
          refine J_aload_n hC dX11_printNumber_24 2 rfl rfl ?_
          refine J_bipush (v := 48) hC dX11_printNumber_25 (by decide +kernel) ?_
          refine J_iload_n hC dX11_printNumber_27 3 rfl rfl ?_
          refine J_iload_n hC dX11_printNumber_28 0 rfl rfl ?_
          refine J_idiv (v := nI (z / 1000)) hC dX11_printNumber_29 (by decide) (pk_div (a := z) (d := 1000) (by first | exact hx31 | decide | exact lt31_div hx31 | exact lt31_mod (lt31_div hx31)) (by first | exact hx31 | decide | exact lt31_div hx31 | exact lt31_mod (lt31_div hx31)) (by first | exact hx31 | decide | exact lt31_div hx31 | exact lt31_mod (lt31_div hx31))) ?_
          refine J_bipush (v := 10) hC dX11_printNumber_30 (by decide +kernel) ?_
          refine J_irem (v := nI ((z / 1000) % 10)) hC dX11_printNumber_32 (by decide) (pk_rem (a := (z / 1000)) (d := 10) (by first | exact hx31 | decide | exact lt31_div hx31 | exact lt31_mod (lt31_div hx31)) (by first | exact hx31 | decide | exact lt31_div hx31 | exact lt31_mod (lt31_div hx31)) (by first | exact hx31 | decide | exact lt31_div hx31 | exact lt31_mod (lt31_div hx31))) ?_
          refine J_iadd (v := nI (48 + ((z / 1000) % 10))) hC dX11_printNumber_33 (nI_add 48 ((z / 1000) % 10)) ?_
          refine J_callVv hC dX11_printNumber_34 wl_X11_312 yi_X11_put (c_X11_put _ G m M q (nI (48 + ((z / 1000) % 10))) (Nat.lt_of_lt_of_le (Nat.add_lt_add_left (show 0 < 10 by decide) q.2) hq)) rfl rfl 0 11 rfl rfl ⟨Nat.le_of_ble_eq_true rfl, Nat.le_of_ble_eq_true rfl⟩ (Nat.le_of_ble_eq_true rfl) (Nat.le_of_ble_eq_true rfl) (Nat.le_of_ble_eq_true rfl) (fun _ _ => ?_)
          refine J_iload_n hC dX11_printNumber_37 0 rfl rfl ?_
          refine J_bipush (v := 10) hC dX11_printNumber_38 (by decide +kernel) ?_
          refine J_idiv (v := 100) hC dX11_printNumber_40 (by decide) (by decide) ?_
          refine J_istore_n hC [(3, .int 100), (2, .int 1000), (0, .ref (m 0)), (1, .int (nI z))] dX11_printNumber_41 rfl (by decide) rfl ?_
          refine J_goto (tgt := 20) hC dX11_printNumber_42 (by decide) ?_
          refine J_iload_n hC dX11_printNumber_20 0 rfl rfl ?_
          refine J_if_le (tgt := 45) hC dX11_printNumber_21 (by decide) (fun c => absurd c (by decide)) (fun _ => ?_)
          refine J_aload_n hC dX11_printNumber_24 2 rfl rfl ?_
          refine J_bipush (v := 48) hC dX11_printNumber_25 (by decide +kernel) ?_
          refine J_iload_n hC dX11_printNumber_27 3 rfl rfl ?_
          refine J_iload_n hC dX11_printNumber_28 0 rfl rfl ?_
          refine J_idiv (v := nI (z / 100)) hC dX11_printNumber_29 (by decide) (pk_div (a := z) (d := 100) (by first | exact hx31 | decide | exact lt31_div hx31 | exact lt31_mod (lt31_div hx31)) (by first | exact hx31 | decide | exact lt31_div hx31 | exact lt31_mod (lt31_div hx31)) (by first | exact hx31 | decide | exact lt31_div hx31 | exact lt31_mod (lt31_div hx31))) ?_
          refine J_bipush (v := 10) hC dX11_printNumber_30 (by decide +kernel) ?_
          refine J_irem (v := nI ((z / 100) % 10)) hC dX11_printNumber_32 (by decide) (pk_rem (a := (z / 100)) (d := 10) (by first | exact hx31 | decide | exact lt31_div hx31 | exact lt31_mod (lt31_div hx31)) (by first | exact hx31 | decide | exact lt31_div hx31 | exact lt31_mod (lt31_div hx31)) (by first | exact hx31 | decide | exact lt31_div hx31 | exact lt31_mod (lt31_div hx31))) ?_
          refine J_iadd (v := nI (48 + ((z / 100) % 10))) hC dX11_printNumber_33 (nI_add 48 ((z / 100) % 10)) ?_
          refine J_callVv hC dX11_printNumber_34 wl_X11_312 yi_X11_put (c_X11_put _ G m M (w_put (nI (48 + ((z / 1000) % 10))) q) (nI (48 + ((z / 100) % 10))) (Nat.lt_of_lt_of_le (Nat.add_lt_add_left (show 1 < 10 by decide) q.2) hq)) rfl rfl 0 11 rfl rfl ⟨Nat.le_of_ble_eq_true rfl, Nat.le_of_ble_eq_true rfl⟩ (Nat.le_of_ble_eq_true rfl) (Nat.le_of_ble_eq_true rfl) (Nat.le_of_ble_eq_true rfl) (fun _ _ => ?_)
          refine J_iload_n hC dX11_printNumber_37 0 rfl rfl ?_
          refine J_bipush (v := 10) hC dX11_printNumber_38 (by decide +kernel) ?_
          refine J_idiv (v := 10) hC dX11_printNumber_40 (by decide) (by decide) ?_
          refine J_istore_n hC [(3, .int 10), (2, .int 1000), (0, .ref (m 0)), (1, .int (nI z))] dX11_printNumber_41 rfl (by decide) rfl ?_
          refine J_goto (tgt := 20) hC dX11_printNumber_42 (by decide) ?_
          refine J_iload_n hC dX11_printNumber_20 0 rfl rfl ?_
          refine J_if_le (tgt := 45) hC dX11_printNumber_21 (by decide) (fun c => absurd c (by decide)) (fun _ => ?_)
          refine J_aload_n hC dX11_printNumber_24 2 rfl rfl ?_
          refine J_bipush (v := 48) hC dX11_printNumber_25 (by decide +kernel) ?_
          refine J_iload_n hC dX11_printNumber_27 3 rfl rfl ?_
          refine J_iload_n hC dX11_printNumber_28 0 rfl rfl ?_
          refine J_idiv (v := nI (z / 10)) hC dX11_printNumber_29 (by decide) (pk_div (a := z) (d := 10) (by first | exact hx31 | decide | exact lt31_div hx31 | exact lt31_mod (lt31_div hx31)) (by first | exact hx31 | decide | exact lt31_div hx31 | exact lt31_mod (lt31_div hx31)) (by first | exact hx31 | decide | exact lt31_div hx31 | exact lt31_mod (lt31_div hx31))) ?_
          refine J_bipush (v := 10) hC dX11_printNumber_30 (by decide +kernel) ?_
          refine J_irem (v := nI ((z / 10) % 10)) hC dX11_printNumber_32 (by decide) (pk_rem (a := (z / 10)) (d := 10) (by first | exact hx31 | decide | exact lt31_div hx31 | exact lt31_mod (lt31_div hx31)) (by first | exact hx31 | decide | exact lt31_div hx31 | exact lt31_mod (lt31_div hx31)) (by first | exact hx31 | decide | exact lt31_div hx31 | exact lt31_mod (lt31_div hx31))) ?_
          refine J_iadd (v := nI (48 + ((z / 10) % 10))) hC dX11_printNumber_33 (nI_add 48 ((z / 10) % 10)) ?_
          refine J_callVv hC dX11_printNumber_34 wl_X11_312 yi_X11_put (c_X11_put _ G m M (w_put (nI (48 + ((z / 100) % 10))) (w_put (nI (48 + ((z / 1000) % 10))) q)) (nI (48 + ((z / 10) % 10))) (Nat.lt_of_lt_of_le (Nat.add_lt_add_left (show 2 < 10 by decide) q.2) hq)) rfl rfl 0 11 rfl rfl ⟨Nat.le_of_ble_eq_true rfl, Nat.le_of_ble_eq_true rfl⟩ (Nat.le_of_ble_eq_true rfl) (Nat.le_of_ble_eq_true rfl) (Nat.le_of_ble_eq_true rfl) (fun _ _ => ?_)
          refine J_iload_n hC dX11_printNumber_37 0 rfl rfl ?_
          refine J_bipush (v := 10) hC dX11_printNumber_38 (by decide +kernel) ?_
          refine J_idiv (v := 1) hC dX11_printNumber_40 (by decide) (by decide) ?_
          refine J_istore_n hC [(3, .int 1), (2, .int 1000), (0, .ref (m 0)), (1, .int (nI z))] dX11_printNumber_41 rfl (by decide) rfl ?_
          refine J_goto (tgt := 20) hC dX11_printNumber_42 (by decide) ?_
          refine J_iload_n hC dX11_printNumber_20 0 rfl rfl ?_
          refine J_if_le (tgt := 45) hC dX11_printNumber_21 (by decide) (fun c => absurd c (by decide)) (fun _ => ?_)
          refine J_aload_n hC dX11_printNumber_24 2 rfl rfl ?_
          refine J_bipush (v := 48) hC dX11_printNumber_25 (by decide +kernel) ?_
          refine J_iload_n hC dX11_printNumber_27 3 rfl rfl ?_
          refine J_iload_n hC dX11_printNumber_28 0 rfl rfl ?_
          refine J_idiv (v := nI (z / 1)) hC dX11_printNumber_29 (by decide) (pk_div (a := z) (d := 1) (by first | exact hx31 | decide | exact lt31_div hx31 | exact lt31_mod (lt31_div hx31)) (by first | exact hx31 | decide | exact lt31_div hx31 | exact lt31_mod (lt31_div hx31)) (by first | exact hx31 | decide | exact lt31_div hx31 | exact lt31_mod (lt31_div hx31))) ?_
          refine J_bipush (v := 10) hC dX11_printNumber_30 (by decide +kernel) ?_
          refine J_irem (v := nI ((z / 1) % 10)) hC dX11_printNumber_32 (by decide) (pk_rem (a := (z / 1)) (d := 10) (by first | exact hx31 | decide | exact lt31_div hx31 | exact lt31_mod (lt31_div hx31)) (by first | exact hx31 | decide | exact lt31_div hx31 | exact lt31_mod (lt31_div hx31)) (by first | exact hx31 | decide | exact lt31_div hx31 | exact lt31_mod (lt31_div hx31))) ?_
          refine J_iadd (v := nI (48 + ((z / 1) % 10))) hC dX11_printNumber_33 (nI_add 48 ((z / 1) % 10)) ?_
          refine J_callVv hC dX11_printNumber_34 wl_X11_312 yi_X11_put (c_X11_put _ G m M (w_put (nI (48 + ((z / 10) % 10))) (w_put (nI (48 + ((z / 100) % 10))) (w_put (nI (48 + ((z / 1000) % 10))) q))) (nI (48 + ((z / 1) % 10))) (Nat.lt_of_lt_of_le (Nat.add_lt_add_left (show 3 < 10 by decide) q.2) hq)) rfl rfl 0 11 rfl rfl ⟨Nat.le_of_ble_eq_true rfl, Nat.le_of_ble_eq_true rfl⟩ (Nat.le_of_ble_eq_true rfl) (Nat.le_of_ble_eq_true rfl) (Nat.le_of_ble_eq_true rfl) (fun _ _ => ?_)
          refine J_iload_n hC dX11_printNumber_37 0 rfl rfl ?_
          refine J_bipush (v := 10) hC dX11_printNumber_38 (by decide +kernel) ?_
          refine J_idiv (v := 0) hC dX11_printNumber_40 (by decide) (by decide) ?_
          refine J_istore_n hC [(3, .int 0), (2, .int 1000), (0, .ref (m 0)), (1, .int (nI z))] dX11_printNumber_41 rfl (by decide) rfl ?_
          refine J_goto (tgt := 20) hC dX11_printNumber_42 (by decide) ?_
          refine J_iload_n hC dX11_printNumber_20 0 rfl rfl ?_
          refine J_if_le (tgt := 45) hC dX11_printNumber_21 (by decide) (fun _ => ?_) (fun c => absurd (by decide) c)
          refine J_vret hC hR dX11_printNumber_45 () ?_ ?_ (by decide) (by decide)
          · trivial
          · refine congrArg (fun z => mdW G m (outW M z)) ?_
            rw [w_dec, w_units, List.foldl_cons, if_neg (fun h => h.elim (dig_lt c_7_3 (by decide) (by decide)) (by decide)), List.foldl_cons, if_neg (fun h => h.elim (dig_lt c_7_3 (by decide) (by decide)) (by decide)), List.foldl_cons, if_neg (fun h => h.elim (dig_lt c_7_3 (by decide) (by decide)) (by decide)), List.foldl_cons, if_neg (fun h => h.elim (dig_lt c_7_3 (by decide) (by decide)) (by decide)), List.foldl_cons, if_neg (fun h => h.elim (dig_lt c_7_3 (by decide) (by decide)) (by decide)), List.foldl_cons, if_neg (fun h => h.elim (dig_lt c_7_3 (by decide) (by decide)) (by decide)), List.foldl_cons, if_pos (Or.inl (dig_ge c_7_2 (by decide))), List.foldl_cons, if_pos (Or.inl (dig_ge c_7_2 (by decide))), List.foldl_cons, if_pos (Or.inl (dig_ge c_7_2 (by decide))), List.foldl_cons, if_pos (Or.inr rfl), List.foldl_nil]
        · refine J_iload_n hC dX11_printNumber_10 0 rfl rfl ?_
          refine J_bipush (v := 10) hC dX11_printNumber_11 (by decide +kernel) ?_
          refine J_imul (v := 10000) hC dX11_printNumber_13 (by decide) ?_
          refine J_istore_n hC [(2, .int 10000), (0, .ref (m 0)), (1, .int (nI z))] dX11_printNumber_14 rfl (by decide) rfl ?_
          refine J_goto (tgt := 2) hC dX11_printNumber_15 (by decide) ?_
          refine J_iload_n hC dX11_printNumber_2 2 rfl rfl ?_
          refine J_iload_n hC dX11_printNumber_3 0 rfl rfl ?_
          refine J_idiv (v := nI (z / 10000)) hC dX11_printNumber_4 (by decide) (pk_div (a := z) (d := 10000) (by first | exact hx31 | decide | exact lt31_div hx31 | exact lt31_mod (lt31_div hx31)) (by first | exact hx31 | decide | exact lt31_div hx31 | exact lt31_mod (lt31_div hx31)) (by first | exact hx31 | decide | exact lt31_div hx31 | exact lt31_mod (lt31_div hx31))) ?_
          refine J_bipush (v := 9) hC dX11_printNumber_5 (by decide +kernel) ?_
          refine J_ic_leN (a := z / 10000) (b := 9) (tgt := 18) hC dX11_printNumber_7 (by decide) (by first | exact hx31 | decide | exact lt31_div hx31 | exact lt31_mod (lt31_div hx31)) (by first | exact hx31 | decide | exact lt31_div hx31 | exact lt31_mod (lt31_div hx31)) (fun (c_7_4 : (z / 10000) ≤ 9) => ?_) (fun (c_7_4 : 9 < (z / 10000)) => ?_)
          · refine J_iload_n hC dX11_printNumber_18 0 rfl rfl ?_
            refine J_istore_n hC [(3, .int 10000), (2, .int 10000), (0, .ref (m 0)), (1, .int (nI z))] dX11_printNumber_19 rfl (by decide) rfl ?_
            refine J_iload_n hC dX11_printNumber_20 0 rfl rfl ?_
            refine J_if_le (tgt := 45) hC dX11_printNumber_21 (by decide) (fun c => absurd c (by decide)) (fun _ => ?_)
            refine J_aload_n hC dX11_printNumber_24 2 rfl rfl ?_
            refine J_bipush (v := 48) hC dX11_printNumber_25 (by decide +kernel) ?_
            refine J_iload_n hC dX11_printNumber_27 3 rfl rfl ?_
            refine J_iload_n hC dX11_printNumber_28 0 rfl rfl ?_
            refine J_idiv (v := nI (z / 10000)) hC dX11_printNumber_29 (by decide) (pk_div (a := z) (d := 10000) (by first | exact hx31 | decide | exact lt31_div hx31 | exact lt31_mod (lt31_div hx31)) (by first | exact hx31 | decide | exact lt31_div hx31 | exact lt31_mod (lt31_div hx31)) (by first | exact hx31 | decide | exact lt31_div hx31 | exact lt31_mod (lt31_div hx31))) ?_
            refine J_bipush (v := 10) hC dX11_printNumber_30 (by decide +kernel) ?_
            refine J_irem (v := nI ((z / 10000) % 10)) hC dX11_printNumber_32 (by decide) (pk_rem (a := (z / 10000)) (d := 10) (by first | exact hx31 | decide | exact lt31_div hx31 | exact lt31_mod (lt31_div hx31)) (by first | exact hx31 | decide | exact lt31_div hx31 | exact lt31_mod (lt31_div hx31)) (by first | exact hx31 | decide | exact lt31_div hx31 | exact lt31_mod (lt31_div hx31))) ?_
            refine J_iadd (v := nI (48 + ((z / 10000) % 10))) hC dX11_printNumber_33 (nI_add 48 ((z / 10000) % 10)) ?_
            refine J_callVv hC dX11_printNumber_34 wl_X11_312 yi_X11_put (c_X11_put _ G m M q (nI (48 + ((z / 10000) % 10))) (Nat.lt_of_lt_of_le (Nat.add_lt_add_left (show 0 < 10 by decide) q.2) hq)) rfl rfl 0 11 rfl rfl ⟨Nat.le_of_ble_eq_true rfl, Nat.le_of_ble_eq_true rfl⟩ (Nat.le_of_ble_eq_true rfl) (Nat.le_of_ble_eq_true rfl) (Nat.le_of_ble_eq_true rfl) (fun _ _ => ?_)
            refine J_iload_n hC dX11_printNumber_37 0 rfl rfl ?_
            refine J_bipush (v := 10) hC dX11_printNumber_38 (by decide +kernel) ?_
            refine J_idiv (v := 1000) hC dX11_printNumber_40 (by decide) (by decide) ?_
            refine J_istore_n hC [(3, .int 1000), (2, .int 10000), (0, .ref (m 0)), (1, .int (nI z))] dX11_printNumber_41 rfl (by decide) rfl ?_
            refine J_goto (tgt := 20) hC dX11_printNumber_42 (by decide) ?_
            refine J_iload_n hC dX11_printNumber_20 0 rfl rfl ?_
            refine J_if_le (tgt := 45) hC dX11_printNumber_21 (by decide) (fun c => absurd c (by decide)) (fun _ => ?_)
            refine J_aload_n hC dX11_printNumber_24 2 rfl rfl ?_
            refine J_bipush (v := 48) hC dX11_printNumber_25 (by decide +kernel) ?_
            refine J_iload_n hC dX11_printNumber_27 3 rfl rfl ?_
            refine J_iload_n hC dX11_printNumber_28 0 rfl rfl ?_
            refine J_idiv (v := nI (z / 1000)) hC dX11_printNumber_29 (by decide) (pk_div (a := z) (d := 1000) (by first | exact hx31 | decide | exact lt31_div hx31 | exact lt31_mod (lt31_div hx31)) (by first | exact hx31 | decide | exact lt31_div hx31 | exact lt31_mod (lt31_div hx31)) (by first | exact hx31 | decide | exact lt31_div hx31 | exact lt31_mod (lt31_div hx31))) ?_
            refine J_bipush (v := 10) hC dX11_printNumber_30 (by decide +kernel) ?_
            refine J_irem (v := nI ((z / 1000) % 10)) hC dX11_printNumber_32 (by decide) (pk_rem (a := (z / 1000)) (d := 10) (by first | exact hx31 | decide | exact lt31_div hx31 | exact lt31_mod (lt31_div hx31)) (by first | exact hx31 | decide | exact lt31_div hx31 | exact lt31_mod (lt31_div hx31)) (by first | exact hx31 | decide | exact lt31_div hx31 | exact lt31_mod (lt31_div hx31))) ?_
            refine J_iadd (v := nI (48 + ((z / 1000) % 10))) hC dX11_printNumber_33 (nI_add 48 ((z / 1000) % 10)) ?_
            refine J_callVv hC dX11_printNumber_34 wl_X11_312 yi_X11_put (c_X11_put _ G m M (w_put (nI (48 + ((z / 10000) % 10))) q) (nI (48 + ((z / 1000) % 10))) (Nat.lt_of_lt_of_le (Nat.add_lt_add_left (show 1 < 10 by decide) q.2) hq)) rfl rfl 0 11 rfl rfl ⟨Nat.le_of_ble_eq_true rfl, Nat.le_of_ble_eq_true rfl⟩ (Nat.le_of_ble_eq_true rfl) (Nat.le_of_ble_eq_true rfl) (Nat.le_of_ble_eq_true rfl) (fun _ _ => ?_)
            refine J_iload_n hC dX11_printNumber_37 0 rfl rfl ?_
            refine J_bipush (v := 10) hC dX11_printNumber_38 (by decide +kernel) ?_
            refine J_idiv (v := 100) hC dX11_printNumber_40 (by decide) (by decide) ?_
            refine J_istore_n hC [(3, .int 100), (2, .int 10000), (0, .ref (m 0)), (1, .int (nI z))] dX11_printNumber_41 rfl (by decide) rfl ?_
            refine J_goto (tgt := 20) hC dX11_printNumber_42 (by decide) ?_
            refine J_iload_n hC dX11_printNumber_20 0 rfl rfl ?_
            refine J_if_le (tgt := 45) hC dX11_printNumber_21 (by decide) (fun c => absurd c (by decide)) (fun _ => ?_)
            refine J_aload_n hC dX11_printNumber_24 2 rfl rfl ?_
            refine J_bipush (v := 48) hC dX11_printNumber_25 (by decide +kernel) ?_
            refine J_iload_n hC dX11_printNumber_27 3 rfl rfl ?_
            refine J_iload_n hC dX11_printNumber_28 0 rfl rfl ?_
            refine J_idiv (v := nI (z / 100)) hC dX11_printNumber_29 (by decide) (pk_div (a := z) (d := 100) (by first | exact hx31 | decide | exact lt31_div hx31 | exact lt31_mod (lt31_div hx31)) (by first | exact hx31 | decide | exact lt31_div hx31 | exact lt31_mod (lt31_div hx31)) (by first | exact hx31 | decide | exact lt31_div hx31 | exact lt31_mod (lt31_div hx31))) ?_
            refine J_bipush (v := 10) hC dX11_printNumber_30 (by decide +kernel) ?_
            refine J_irem (v := nI ((z / 100) % 10)) hC dX11_printNumber_32 (by decide) (pk_rem (a := (z / 100)) (d := 10) (by first | exact hx31 | decide | exact lt31_div hx31 | exact lt31_mod (lt31_div hx31)) (by first | exact hx31 | decide | exact lt31_div hx31 | exact lt31_mod (lt31_div hx31)) (by first | exact hx31 | decide | exact lt31_div hx31 | exact lt31_mod (lt31_div hx31))) ?_
            refine J_iadd (v := nI (48 + ((z / 100) % 10))) hC dX11_printNumber_33 (nI_add 48 ((z / 100) % 10)) ?_
            refine J_callVv hC dX11_printNumber_34 wl_X11_312 yi_X11_put (c_X11_put _ G m M (w_put (nI (48 + ((z / 1000) % 10))) (w_put (nI (48 + ((z / 10000) % 10))) q)) (nI (48 + ((z / 100) % 10))) (Nat.lt_of_lt_of_le (Nat.add_lt_add_left (show 2 < 10 by decide) q.2) hq)) rfl rfl 0 11 rfl rfl ⟨Nat.le_of_ble_eq_true rfl, Nat.le_of_ble_eq_true rfl⟩ (Nat.le_of_ble_eq_true rfl) (Nat.le_of_ble_eq_true rfl) (Nat.le_of_ble_eq_true rfl) (fun _ _ => ?_)
            refine J_iload_n hC dX11_printNumber_37 0 rfl rfl ?_
            refine J_bipush (v := 10) hC dX11_printNumber_38 (by decide +kernel) ?_
            refine J_idiv (v := 10) hC dX11_printNumber_40 (by decide) (by decide) ?_
            refine J_istore_n hC [(3, .int 10), (2, .int 10000), (0, .ref (m 0)), (1, .int (nI z))] dX11_printNumber_41 rfl (by decide) rfl ?_
            refine J_goto (tgt := 20) hC dX11_printNumber_42 (by decide) ?_
            refine J_iload_n hC dX11_printNumber_20 0 rfl rfl ?_
            refine J_if_le (tgt := 45) hC dX11_printNumber_21 (by decide) (fun c => absurd c (by decide)) (fun _ => ?_)
            refine J_aload_n hC dX11_printNumber_24 2 rfl rfl ?_
            refine J_bipush (v := 48) hC dX11_printNumber_25 (by decide +kernel) ?_
            refine J_iload_n hC dX11_printNumber_27 3 rfl rfl ?_
            refine J_iload_n hC dX11_printNumber_28 0 rfl rfl ?_
            refine J_idiv (v := nI (z / 10)) hC dX11_printNumber_29 (by decide) (pk_div (a := z) (d := 10) (by first | exact hx31 | decide | exact lt31_div hx31 | exact lt31_mod (lt31_div hx31)) (by first | exact hx31 | decide | exact lt31_div hx31 | exact lt31_mod (lt31_div hx31)) (by first | exact hx31 | decide | exact lt31_div hx31 | exact lt31_mod (lt31_div hx31))) ?_
            refine J_bipush (v := 10) hC dX11_printNumber_30 (by decide +kernel) ?_
            refine J_irem (v := nI ((z / 10) % 10)) hC dX11_printNumber_32 (by decide) (pk_rem (a := (z / 10)) (d := 10) (by first | exact hx31 | decide | exact lt31_div hx31 | exact lt31_mod (lt31_div hx31)) (by first | exact hx31 | decide | exact lt31_div hx31 | exact lt31_mod (lt31_div hx31)) (by first | exact hx31 | decide | exact lt31_div hx31 | exact lt31_mod (lt31_div hx31))) ?_
            refine J_iadd (v := nI (48 + ((z / 10) % 10))) hC dX11_printNumber_33 (nI_add 48 ((z / 10) % 10)) ?_
            refine J_callVv hC dX11_printNumber_34 wl_X11_312 yi_X11_put (c_X11_put _ G m M (w_put (nI (48 + ((z / 100) % 10))) (w_put (nI (48 + ((z / 1000) % 10))) (w_put (nI (48 + ((z / 10000) % 10))) q))) (nI (48 + ((z / 10) % 10))) (Nat.lt_of_lt_of_le (Nat.add_lt_add_left (show 3 < 10 by decide) q.2) hq)) rfl rfl 0 11 rfl rfl ⟨Nat.le_of_ble_eq_true rfl, Nat.le_of_ble_eq_true rfl⟩ (Nat.le_of_ble_eq_true rfl) (Nat.le_of_ble_eq_true rfl) (Nat.le_of_ble_eq_true rfl) (fun _ _ => ?_)
            refine J_iload_n hC dX11_printNumber_37 0 rfl rfl ?_
            refine J_bipush (v := 10) hC dX11_printNumber_38 (by decide +kernel) ?_
            refine J_idiv (v := 1) hC dX11_printNumber_40 (by decide) (by decide) ?_
            refine J_istore_n hC [(3, .int 1), (2, .int 10000), (0, .ref (m 0)), (1, .int (nI z))] dX11_printNumber_41 rfl (by decide) rfl ?_
            refine J_goto (tgt := 20) hC dX11_printNumber_42 (by decide) ?_
            refine J_iload_n hC dX11_printNumber_20 0 rfl rfl ?_
            refine J_if_le (tgt := 45) hC dX11_printNumber_21 (by decide) (fun c => absurd c (by decide)) (fun _ => ?_)
            refine J_aload_n hC dX11_printNumber_24 2 rfl rfl ?_
            refine J_bipush (v := 48) hC dX11_printNumber_25 (by decide +kernel) ?_
            refine J_iload_n hC dX11_printNumber_27 3 rfl rfl ?_
            refine J_iload_n hC dX11_printNumber_28 0 rfl rfl ?_
            refine J_idiv (v := nI (z / 1)) hC dX11_printNumber_29 (by decide) (pk_div (a := z) (d := 1) (by first | exact hx31 | decide | exact lt31_div hx31 | exact lt31_mod (lt31_div hx31)) (by first | exact hx31 | decide | exact lt31_div hx31 | exact lt31_mod (lt31_div hx31)) (by first | exact hx31 | decide | exact lt31_div hx31 | exact lt31_mod (lt31_div hx31))) ?_
            refine J_bipush (v := 10) hC dX11_printNumber_30 (by decide +kernel) ?_
            refine J_irem (v := nI ((z / 1) % 10)) hC dX11_printNumber_32 (by decide) (pk_rem (a := (z / 1)) (d := 10) (by first | exact hx31 | decide | exact lt31_div hx31 | exact lt31_mod (lt31_div hx31)) (by first | exact hx31 | decide | exact lt31_div hx31 | exact lt31_mod (lt31_div hx31)) (by first | exact hx31 | decide | exact lt31_div hx31 | exact lt31_mod (lt31_div hx31))) ?_
            refine J_iadd (v := nI (48 + ((z / 1) % 10))) hC dX11_printNumber_33 (nI_add 48 ((z / 1) % 10)) ?_
            refine J_callVv hC dX11_printNumber_34 wl_X11_312 yi_X11_put (c_X11_put _ G m M (w_put (nI (48 + ((z / 10) % 10))) (w_put (nI (48 + ((z / 100) % 10))) (w_put (nI (48 + ((z / 1000) % 10))) (w_put (nI (48 + ((z / 10000) % 10))) q)))) (nI (48 + ((z / 1) % 10))) (Nat.lt_of_lt_of_le (Nat.add_lt_add_left (show 4 < 10 by decide) q.2) hq)) rfl rfl 0 11 rfl rfl ⟨Nat.le_of_ble_eq_true rfl, Nat.le_of_ble_eq_true rfl⟩ (Nat.le_of_ble_eq_true rfl) (Nat.le_of_ble_eq_true rfl) (Nat.le_of_ble_eq_true rfl) (fun _ _ => ?_)
            refine J_iload_n hC dX11_printNumber_37 0 rfl rfl ?_
            refine J_bipush (v := 10) hC dX11_printNumber_38 (by decide +kernel) ?_
            refine J_idiv (v := 0) hC dX11_printNumber_40 (by decide) (by decide) ?_
            refine J_istore_n hC [(3, .int 0), (2, .int 10000), (0, .ref (m 0)), (1, .int (nI z))] dX11_printNumber_41 rfl (by decide) rfl ?_
            refine J_goto (tgt := 20) hC dX11_printNumber_42 (by decide) ?_
            refine J_iload_n hC dX11_printNumber_20 0 rfl rfl ?_
            refine J_if_le (tgt := 45) hC dX11_printNumber_21 (by decide) (fun _ => ?_) (fun c => absurd (by decide) c)
            refine J_vret hC hR dX11_printNumber_45 () ?_ ?_ (by decide) (by decide)
            · trivial
            · refine congrArg (fun z => mdW G m (outW M z)) ?_
              rw [w_dec, w_units, List.foldl_cons, if_neg (fun h => h.elim (dig_lt c_7_4 (by decide) (by decide)) (by decide)), List.foldl_cons, if_neg (fun h => h.elim (dig_lt c_7_4 (by decide) (by decide)) (by decide)), List.foldl_cons, if_neg (fun h => h.elim (dig_lt c_7_4 (by decide) (by decide)) (by decide)), List.foldl_cons, if_neg (fun h => h.elim (dig_lt c_7_4 (by decide) (by decide)) (by decide)), List.foldl_cons, if_neg (fun h => h.elim (dig_lt c_7_4 (by decide) (by decide)) (by decide)), List.foldl_cons, if_pos (Or.inl (dig_ge c_7_3 (by decide))), List.foldl_cons, if_pos (Or.inl (dig_ge c_7_3 (by decide))), List.foldl_cons, if_pos (Or.inl (dig_ge c_7_3 (by decide))), List.foldl_cons, if_pos (Or.inl (dig_ge c_7_3 (by decide))), List.foldl_cons, if_pos (Or.inr rfl), List.foldl_nil]
          · refine J_iload_n hC dX11_printNumber_10 0 rfl rfl ?_
            refine J_bipush (v := 10) hC dX11_printNumber_11 (by decide +kernel) ?_
            refine J_imul (v := 100000) hC dX11_printNumber_13 (by decide) ?_
            refine J_istore_n hC [(2, .int 100000), (0, .ref (m 0)), (1, .int (nI z))] dX11_printNumber_14 rfl (by decide) rfl ?_
            refine J_goto (tgt := 2) hC dX11_printNumber_15 (by decide) ?_
            refine J_iload_n hC dX11_printNumber_2 2 rfl rfl ?_
            refine J_iload_n hC dX11_printNumber_3 0 rfl rfl ?_
            refine J_idiv (v := nI (z / 100000)) hC dX11_printNumber_4 (by decide) (pk_div (a := z) (d := 100000) (by first | exact hx31 | decide | exact lt31_div hx31 | exact lt31_mod (lt31_div hx31)) (by first | exact hx31 | decide | exact lt31_div hx31 | exact lt31_mod (lt31_div hx31)) (by first | exact hx31 | decide | exact lt31_div hx31 | exact lt31_mod (lt31_div hx31))) ?_
            refine J_bipush (v := 9) hC dX11_printNumber_5 (by decide +kernel) ?_
            refine J_ic_leN (a := z / 100000) (b := 9) (tgt := 18) hC dX11_printNumber_7 (by decide) (by first | exact hx31 | decide | exact lt31_div hx31 | exact lt31_mod (lt31_div hx31)) (by first | exact hx31 | decide | exact lt31_div hx31 | exact lt31_mod (lt31_div hx31)) (fun (c_7_5 : (z / 100000) ≤ 9) => ?_) (fun (c_7_5 : 9 < (z / 100000)) => ?_)
            · refine J_iload_n hC dX11_printNumber_18 0 rfl rfl ?_
              refine J_istore_n hC [(3, .int 100000), (2, .int 100000), (0, .ref (m 0)), (1, .int (nI z))] dX11_printNumber_19 rfl (by decide) rfl ?_
              refine J_iload_n hC dX11_printNumber_20 0 rfl rfl ?_
              refine J_if_le (tgt := 45) hC dX11_printNumber_21 (by decide) (fun c => absurd c (by decide)) (fun _ => ?_)
              refine J_aload_n hC dX11_printNumber_24 2 rfl rfl ?_
              refine J_bipush (v := 48) hC dX11_printNumber_25 (by decide +kernel) ?_
              refine J_iload_n hC dX11_printNumber_27 3 rfl rfl ?_
              refine J_iload_n hC dX11_printNumber_28 0 rfl rfl ?_
              refine J_idiv (v := nI (z / 100000)) hC dX11_printNumber_29 (by decide) (pk_div (a := z) (d := 100000) (by first | exact hx31 | decide | exact lt31_div hx31 | exact lt31_mod (lt31_div hx31)) (by first | exact hx31 | decide | exact lt31_div hx31 | exact lt31_mod (lt31_div hx31)) (by first | exact hx31 | decide | exact lt31_div hx31 | exact lt31_mod (lt31_div hx31))) ?_
              refine J_bipush (v := 10) hC dX11_printNumber_30 (by decide +kernel) ?_
              refine J_irem (v := nI ((z / 100000) % 10)) hC dX11_printNumber_32 (by decide) (pk_rem (a := (z / 100000)) (d := 10) (by first | exact hx31 | decide | exact lt31_div hx31 | exact lt31_mod (lt31_div hx31)) (by first | exact hx31 | decide | exact lt31_div hx31 | exact lt31_mod (lt31_div hx31)) (by first | exact hx31 | decide | exact lt31_div hx31 | exact lt31_mod (lt31_div hx31))) ?_
              refine J_iadd (v := nI (48 + ((z / 100000) % 10))) hC dX11_printNumber_33 (nI_add 48 ((z / 100000) % 10)) ?_
              refine J_callVv hC dX11_printNumber_34 wl_X11_312 yi_X11_put (c_X11_put _ G m M q (nI (48 + ((z / 100000) % 10))) (Nat.lt_of_lt_of_le (Nat.add_lt_add_left (show 0 < 10 by decide) q.2) hq)) rfl rfl 0 11 rfl rfl ⟨Nat.le_of_ble_eq_true rfl, Nat.le_of_ble_eq_true rfl⟩ (Nat.le_of_ble_eq_true rfl) (Nat.le_of_ble_eq_true rfl) (Nat.le_of_ble_eq_true rfl) (fun _ _ => ?_)
              refine J_iload_n hC dX11_printNumber_37 0 rfl rfl ?_
              refine J_bipush (v := 10) hC dX11_printNumber_38 (by decide +kernel) ?_
              refine J_idiv (v := 10000) hC dX11_printNumber_40 (by decide) (by decide) ?_
              refine J_istore_n hC [(3, .int 10000), (2, .int 100000), (0, .ref (m 0)), (1, .int (nI z))] dX11_printNumber_41 rfl (by decide) rfl ?_
              refine J_goto (tgt := 20) hC dX11_printNumber_42 (by decide) ?_
              refine J_iload_n hC dX11_printNumber_20 0 rfl rfl ?_
              refine J_if_le (tgt := 45) hC dX11_printNumber_21 (by decide) (fun c => absurd c (by decide)) (fun _ => ?_)
              refine J_aload_n hC dX11_printNumber_24 2 rfl rfl ?_
              refine J_bipush (v := 48) hC dX11_printNumber_25 (by decide +kernel) ?_
              refine J_iload_n hC dX11_printNumber_27 3 rfl rfl ?_
              refine J_iload_n hC dX11_printNumber_28 0 rfl rfl ?_
              refine J_idiv (v := nI (z / 10000)) hC dX11_printNumber_29 (by decide) (pk_div (a := z) (d := 10000) (by first | exact hx31 | decide | exact lt31_div hx31 | exact lt31_mod (lt31_div hx31)) (by first | exact hx31 | decide | exact lt31_div hx31 | exact lt31_mod (lt31_div hx31)) (by first | exact hx31 | decide | exact lt31_div hx31 | exact lt31_mod (lt31_div hx31))) ?_
              refine J_bipush (v := 10) hC dX11_printNumber_30 (by decide +kernel) ?_
              refine J_irem (v := nI ((z / 10000) % 10)) hC dX11_printNumber_32 (by decide) (pk_rem (a := (z / 10000)) (d := 10) (by first | exact hx31 | decide | exact lt31_div hx31 | exact lt31_mod (lt31_div hx31)) (by first | exact hx31 | decide | exact lt31_div hx31 | exact lt31_mod (lt31_div hx31)) (by first | exact hx31 | decide | exact lt31_div hx31 | exact lt31_mod (lt31_div hx31))) ?_
              refine J_iadd (v := nI (48 + ((z / 10000) % 10))) hC dX11_printNumber_33 (nI_add 48 ((z / 10000) % 10)) ?_
              refine J_callVv hC dX11_printNumber_34 wl_X11_312 yi_X11_put (c_X11_put _ G m M (w_put (nI (48 + ((z / 100000) % 10))) q) (nI (48 + ((z / 10000) % 10))) (Nat.lt_of_lt_of_le (Nat.add_lt_add_left (show 1 < 10 by decide) q.2) hq)) rfl rfl 0 11 rfl rfl ⟨Nat.le_of_ble_eq_true rfl, Nat.le_of_ble_eq_true rfl⟩ (Nat.le_of_ble_eq_true rfl) (Nat.le_of_ble_eq_true rfl) (Nat.le_of_ble_eq_true rfl) (fun _ _ => ?_)
              refine J_iload_n hC dX11_printNumber_37 0 rfl rfl ?_
              refine J_bipush (v := 10) hC dX11_printNumber_38 (by decide +kernel) ?_
              refine J_idiv (v := 1000) hC dX11_printNumber_40 (by decide) (by decide) ?_
              refine J_istore_n hC [(3, .int 1000), (2, .int 100000), (0, .ref (m 0)), (1, .int (nI z))] dX11_printNumber_41 rfl (by decide) rfl ?_
              refine J_goto (tgt := 20) hC dX11_printNumber_42 (by decide) ?_
              refine J_iload_n hC dX11_printNumber_20 0 rfl rfl ?_
              refine J_if_le (tgt := 45) hC dX11_printNumber_21 (by decide) (fun c => absurd c (by decide)) (fun _ => ?_)
              refine J_aload_n hC dX11_printNumber_24 2 rfl rfl ?_
              refine J_bipush (v := 48) hC dX11_printNumber_25 (by decide +kernel) ?_
              refine J_iload_n hC dX11_printNumber_27 3 rfl rfl ?_
              refine J_iload_n hC dX11_printNumber_28 0 rfl rfl ?_
              refine J_idiv (v := nI (z / 1000)) hC dX11_printNumber_29 (by decide) (pk_div (a := z) (d := 1000) (by first | exact hx31 | decide | exact lt31_div hx31 | exact lt31_mod (lt31_div hx31)) (by first | exact hx31 | decide | exact lt31_div hx31 | exact lt31_mod (lt31_div hx31)) (by first | exact hx31 | decide | exact lt31_div hx31 | exact lt31_mod (lt31_div hx31))) ?_
              refine J_bipush (v := 10) hC dX11_printNumber_30 (by decide +kernel) ?_
              refine J_irem (v := nI ((z / 1000) % 10)) hC dX11_printNumber_32 (by decide) (pk_rem (a := (z / 1000)) (d := 10) (by first | exact hx31 | decide | exact lt31_div hx31 | exact lt31_mod (lt31_div hx31)) (by first | exact hx31 | decide | exact lt31_div hx31 | exact lt31_mod (lt31_div hx31)) (by first | exact hx31 | decide | exact lt31_div hx31 | exact lt31_mod (lt31_div hx31))) ?_
              refine J_iadd (v := nI (48 + ((z / 1000) % 10))) hC dX11_printNumber_33 (nI_add 48 ((z / 1000) % 10)) ?_
              refine J_callVv hC dX11_printNumber_34 wl_X11_312 yi_X11_put (c_X11_put _ G m M (w_put (nI (48 + ((z / 10000) % 10))) (w_put (nI (48 + ((z / 100000) % 10))) q)) (nI (48 + ((z / 1000) % 10))) (Nat.lt_of_lt_of_le (Nat.add_lt_add_left (show 2 < 10 by decide) q.2) hq)) rfl rfl 0 11 rfl rfl ⟨Nat.le_of_ble_eq_true rfl, Nat.le_of_ble_eq_true rfl⟩ (Nat.le_of_ble_eq_true rfl) (Nat.le_of_ble_eq_true rfl) (Nat.le_of_ble_eq_true rfl) (fun _ _ => ?_)
              refine J_iload_n hC dX11_printNumber_37 0 rfl rfl ?_
              refine J_bipush (v := 10) hC dX11_printNumber_38 (by decide +kernel) ?_
              refine J_idiv (v := 100) hC dX11_printNumber_40 (by decide) (by decide) ?_
              refine J_istore_n hC [(3, .int 100), (2, .int 100000), (0, .ref (m 0)), (1, .int (nI z))] dX11_printNumber_41 rfl (by decide) rfl ?_
              refine J_goto (tgt := 20) hC dX11_printNumber_42 (by decide) ?_
              refine J_iload_n hC dX11_printNumber_20 0 rfl rfl ?_
              refine J_if_le (tgt := 45) hC dX11_printNumber_21 (by decide) (fun c => absurd c (by decide)) (fun _ => ?_)
              refine J_aload_n hC dX11_printNumber_24 2 rfl rfl ?_
              refine J_bipush (v := 48) hC dX11_printNumber_25 (by decide +kernel) ?_
              refine J_iload_n hC dX11_printNumber_27 3 rfl rfl ?_
              refine J_iload_n hC dX11_printNumber_28 0 rfl rfl ?_
              refine J_idiv (v := nI (z / 100)) hC dX11_printNumber_29 (by decide) (pk_div (a := z) (d := 100) (by first | exact hx31 | decide | exact lt31_div hx31 | exact lt31_mod (lt31_div hx31)) (by first | exact hx31 | decide | exact lt31_div hx31 | exact lt31_mod (lt31_div hx31)) (by first | exact hx31 | decide | exact lt31_div hx31 | exact lt31_mod (lt31_div hx31))) ?_
              refine J_bipush (v := 10) hC dX11_printNumber_30 (by decide +kernel) ?_
              refine J_irem (v := nI ((z / 100) % 10)) hC dX11_printNumber_32 (by decide) (pk_rem (a := (z / 100)) (d := 10) (by first | exact hx31 | decide | exact lt31_div hx31 | exact lt31_mod (lt31_div hx31)) (by first | exact hx31 | decide | exact lt31_div hx31 | exact lt31_mod (lt31_div hx31)) (by first | exact hx31 | decide | exact lt31_div hx31 | exact lt31_mod (lt31_div hx31))) ?_
              refine J_iadd (v := nI (48 + ((z / 100) % 10))) hC dX11_printNumber_33 (nI_add 48 ((z / 100) % 10)) ?_
              refine J_callVv hC dX11_printNumber_34 wl_X11_312 yi_X11_put (c_X11_put _ G m M (w_put (nI (48 + ((z / 1000) % 10))) (w_put (nI (48 + ((z / 10000) % 10))) (w_put (nI (48 + ((z / 100000) % 10))) q))) (nI (48 + ((z / 100) % 10))) (Nat.lt_of_lt_of_le (Nat.add_lt_add_left (show 3 < 10 by decide) q.2) hq)) rfl rfl 0 11 rfl rfl ⟨Nat.le_of_ble_eq_true rfl, Nat.le_of_ble_eq_true rfl⟩ (Nat.le_of_ble_eq_true rfl) (Nat.le_of_ble_eq_true rfl) (Nat.le_of_ble_eq_true rfl) (fun _ _ => ?_)
              refine J_iload_n hC dX11_printNumber_37 0 rfl rfl ?_
              refine J_bipush (v := 10) hC dX11_printNumber_38 (by decide +kernel) ?_
              refine J_idiv (v := 10) hC dX11_printNumber_40 (by decide) (by decide) ?_
              refine J_istore_n hC [(3, .int 10), (2, .int 100000), (0, .ref (m 0)), (1, .int (nI z))] dX11_printNumber_41 rfl (by decide) rfl ?_
              refine J_goto (tgt := 20) hC dX11_printNumber_42 (by decide) ?_
              refine J_iload_n hC dX11_printNumber_20 0 rfl rfl ?_
              refine J_if_le (tgt := 45) hC dX11_printNumber_21 (by decide) (fun c => absurd c (by decide)) (fun _ => ?_)
              refine J_aload_n hC dX11_printNumber_24 2 rfl rfl ?_
              refine J_bipush (v := 48) hC dX11_printNumber_25 (by decide +kernel) ?_
              refine J_iload_n hC dX11_printNumber_27 3 rfl rfl ?_
              refine J_iload_n hC dX11_printNumber_28 0 rfl rfl ?_
              refine J_idiv (v := nI (z / 10)) hC dX11_printNumber_29 (by decide) (pk_div (a := z) (d := 10) (by first | exact hx31 | decide | exact lt31_div hx31 | exact lt31_mod (lt31_div hx31)) (by first | exact hx31 | decide | exact lt31_div hx31 | exact lt31_mod (lt31_div hx31)) (by first | exact hx31 | decide | exact lt31_div hx31 | exact lt31_mod (lt31_div hx31))) ?_
              refine J_bipush (v := 10) hC dX11_printNumber_30 (by decide +kernel) ?_
              refine J_irem (v := nI ((z / 10) % 10)) hC dX11_printNumber_32 (by decide) (pk_rem (a := (z / 10)) (d := 10) (by first | exact hx31 | decide | exact lt31_div hx31 | exact lt31_mod (lt31_div hx31)) (by first | exact hx31 | decide | exact lt31_div hx31 | exact lt31_mod (lt31_div hx31)) (by first | exact hx31 | decide | exact lt31_div hx31 | exact lt31_mod (lt31_div hx31))) ?_
              refine J_iadd (v := nI (48 + ((z / 10) % 10))) hC dX11_printNumber_33 (nI_add 48 ((z / 10) % 10)) ?_
              refine J_callVv hC dX11_printNumber_34 wl_X11_312 yi_X11_put (c_X11_put _ G m M (w_put (nI (48 + ((z / 100) % 10))) (w_put (nI (48 + ((z / 1000) % 10))) (w_put (nI (48 + ((z / 10000) % 10))) (w_put (nI (48 + ((z / 100000) % 10))) q)))) (nI (48 + ((z / 10) % 10))) (Nat.lt_of_lt_of_le (Nat.add_lt_add_left (show 4 < 10 by decide) q.2) hq)) rfl rfl 0 11 rfl rfl ⟨Nat.le_of_ble_eq_true rfl, Nat.le_of_ble_eq_true rfl⟩ (Nat.le_of_ble_eq_true rfl) (Nat.le_of_ble_eq_true rfl) (Nat.le_of_ble_eq_true rfl) (fun _ _ => ?_)
              refine J_iload_n hC dX11_printNumber_37 0 rfl rfl ?_
              refine J_bipush (v := 10) hC dX11_printNumber_38 (by decide +kernel) ?_
              refine J_idiv (v := 1) hC dX11_printNumber_40 (by decide) (by decide) ?_
              refine J_istore_n hC [(3, .int 1), (2, .int 100000), (0, .ref (m 0)), (1, .int (nI z))] dX11_printNumber_41 rfl (by decide) rfl ?_
              refine J_goto (tgt := 20) hC dX11_printNumber_42 (by decide) ?_
              refine J_iload_n hC dX11_printNumber_20 0 rfl rfl ?_
              refine J_if_le (tgt := 45) hC dX11_printNumber_21 (by decide) (fun c => absurd c (by decide)) (fun _ => ?_)
              refine J_aload_n hC dX11_printNumber_24 2 rfl rfl ?_
              refine J_bipush (v := 48) hC dX11_printNumber_25 (by decide +kernel) ?_
              refine J_iload_n hC dX11_printNumber_27 3 rfl rfl ?_
              refine J_iload_n hC dX11_printNumber_28 0 rfl rfl ?_
              refine J_idiv (v := nI (z / 1)) hC dX11_printNumber_29 (by decide) (pk_div (a := z) (d := 1) (by first | exact hx31 | decide | exact lt31_div hx31 | exact lt31_mod (lt31_div hx31)) (by first | exact hx31 | decide | exact lt31_div hx31 | exact lt31_mod (lt31_div hx31)) (by first | exact hx31 | decide | exact lt31_div hx31 | exact lt31_mod (lt31_div hx31))) ?_
              refine J_bipush (v := 10) hC dX11_printNumber_30 (by decide +kernel) ?_
              refine J_irem (v := nI ((z / 1) % 10)) hC dX11_printNumber_32 (by decide) (pk_rem (a := (z / 1)) (d := 10) (by first | exact hx31 | decide | exact lt31_div hx31 | exact lt31_mod (lt31_div hx31)) (by first | exact hx31 | decide | exact lt31_div hx31 | exact lt31_mod (lt31_div hx31)) (by first | exact hx31 | decide | exact lt31_div hx31 | exact lt31_mod (lt31_div hx31))) ?_
              refine J_iadd (v := nI (48 + ((z / 1) % 10))) hC dX11_printNumber_33 (nI_add 48 ((z / 1) % 10)) ?_
              refine J_callVv hC dX11_printNumber_34 wl_X11_312 yi_X11_put (c_X11_put _ G m M (w_put (nI (48 + ((z / 10) % 10))) (w_put (nI (48 + ((z / 100) % 10))) (w_put (nI (48 + ((z / 1000) % 10))) (w_put (nI (48 + ((z / 10000) % 10))) (w_put (nI (48 + ((z / 100000) % 10))) q))))) (nI (48 + ((z / 1) % 10))) (Nat.lt_of_lt_of_le (Nat.add_lt_add_left (show 5 < 10 by decide) q.2) hq)) rfl rfl 0 11 rfl rfl ⟨Nat.le_of_ble_eq_true rfl, Nat.le_of_ble_eq_true rfl⟩ (Nat.le_of_ble_eq_true rfl) (Nat.le_of_ble_eq_true rfl) (Nat.le_of_ble_eq_true rfl) (fun _ _ => ?_)
              refine J_iload_n hC dX11_printNumber_37 0 rfl rfl ?_
              refine J_bipush (v := 10) hC dX11_printNumber_38 (by decide +kernel) ?_
              refine J_idiv (v := 0) hC dX11_printNumber_40 (by decide) (by decide) ?_
              refine J_istore_n hC [(3, .int 0), (2, .int 100000), (0, .ref (m 0)), (1, .int (nI z))] dX11_printNumber_41 rfl (by decide) rfl ?_
              refine J_goto (tgt := 20) hC dX11_printNumber_42 (by decide) ?_
              refine J_iload_n hC dX11_printNumber_20 0 rfl rfl ?_
              refine J_if_le (tgt := 45) hC dX11_printNumber_21 (by decide) (fun _ => ?_) (fun c => absurd (by decide) c)
              refine J_vret hC hR dX11_printNumber_45 () ?_ ?_ (by decide) (by decide)
              · trivial
              · refine congrArg (fun z => mdW G m (outW M z)) ?_
                rw [w_dec, w_units, List.foldl_cons, if_neg (fun h => h.elim (dig_lt c_7_5 (by decide) (by decide)) (by decide)), List.foldl_cons, if_neg (fun h => h.elim (dig_lt c_7_5 (by decide) (by decide)) (by decide)), List.foldl_cons, if_neg (fun h => h.elim (dig_lt c_7_5 (by decide) (by decide)) (by decide)), List.foldl_cons, if_neg (fun h => h.elim (dig_lt c_7_5 (by decide) (by decide)) (by decide)), List.foldl_cons, if_pos (Or.inl (dig_ge c_7_4 (by decide))), List.foldl_cons, if_pos (Or.inl (dig_ge c_7_4 (by decide))), List.foldl_cons, if_pos (Or.inl (dig_ge c_7_4 (by decide))), List.foldl_cons, if_pos (Or.inl (dig_ge c_7_4 (by decide))), List.foldl_cons, if_pos (Or.inl (dig_ge c_7_4 (by decide))), List.foldl_cons, if_pos (Or.inr rfl), List.foldl_nil]
            · refine J_iload_n hC dX11_printNumber_10 0 rfl rfl ?_
              refine J_bipush (v := 10) hC dX11_printNumber_11 (by decide +kernel) ?_
              refine J_imul (v := 1000000) hC dX11_printNumber_13 (by decide) ?_
              refine J_istore_n hC [(2, .int 1000000), (0, .ref (m 0)), (1, .int (nI z))] dX11_printNumber_14 rfl (by decide) rfl ?_
              refine J_goto (tgt := 2) hC dX11_printNumber_15 (by decide) ?_
              refine J_iload_n hC dX11_printNumber_2 2 rfl rfl ?_
              refine J_iload_n hC dX11_printNumber_3 0 rfl rfl ?_
              refine J_idiv (v := nI (z / 1000000)) hC dX11_printNumber_4 (by decide) (pk_div (a := z) (d := 1000000) (by first | exact hx31 | decide | exact lt31_div hx31 | exact lt31_mod (lt31_div hx31)) (by first | exact hx31 | decide | exact lt31_div hx31 | exact lt31_mod (lt31_div hx31)) (by first | exact hx31 | decide | exact lt31_div hx31 | exact lt31_mod (lt31_div hx31))) ?_
              refine J_bipush (v := 9) hC dX11_printNumber_5 (by decide +kernel) ?_
              refine J_ic_leN (a := z / 1000000) (b := 9) (tgt := 18) hC dX11_printNumber_7 (by decide) (by first | exact hx31 | decide | exact lt31_div hx31 | exact lt31_mod (lt31_div hx31)) (by first | exact hx31 | decide | exact lt31_div hx31 | exact lt31_mod (lt31_div hx31)) (fun (c_7_6 : (z / 1000000) ≤ 9) => ?_) (fun (c_7_6 : 9 < (z / 1000000)) => ?_)
              · refine J_iload_n hC dX11_printNumber_18 0 rfl rfl ?_
                refine J_istore_n hC [(3, .int 1000000), (2, .int 1000000), (0, .ref (m 0)), (1, .int (nI z))] dX11_printNumber_19 rfl (by decide) rfl ?_
                refine J_iload_n hC dX11_printNumber_20 0 rfl rfl ?_
                refine J_if_le (tgt := 45) hC dX11_printNumber_21 (by decide) (fun c => absurd c (by decide)) (fun _ => ?_)
                refine J_aload_n hC dX11_printNumber_24 2 rfl rfl ?_
                refine J_bipush (v := 48) hC dX11_printNumber_25 (by decide +kernel) ?_
                refine J_iload_n hC dX11_printNumber_27 3 rfl rfl ?_
                refine J_iload_n hC dX11_printNumber_28 0 rfl rfl ?_
                refine J_idiv (v := nI (z / 1000000)) hC dX11_printNumber_29 (by decide) (pk_div (a := z) (d := 1000000) (by first | exact hx31 | decide | exact lt31_div hx31 | exact lt31_mod (lt31_div hx31)) (by first | exact hx31 | decide | exact lt31_div hx31 | exact lt31_mod (lt31_div hx31)) (by first | exact hx31 | decide | exact lt31_div hx31 | exact lt31_mod (lt31_div hx31))) ?_
                refine J_bipush (v := 10) hC dX11_printNumber_30 (by decide +kernel) ?_
                refine J_irem (v := nI ((z / 1000000) % 10)) hC dX11_printNumber_32 (by decide) (pk_rem (a := (z / 1000000)) (d := 10) (by first | exact hx31 | decide | exact lt31_div hx31 | exact lt31_mod (lt31_div hx31)) (by first | exact hx31 | decide | exact lt31_div hx31 | exact lt31_mod (lt31_div hx31)) (by first | exact hx31 | decide | exact lt31_div hx31 | exact lt31_mod (lt31_div hx31))) ?_
                refine J_iadd (v := nI (48 + ((z / 1000000) % 10))) hC dX11_printNumber_33 (nI_add 48 ((z / 1000000) % 10)) ?_
                refine J_callVv hC dX11_printNumber_34 wl_X11_312 yi_X11_put (c_X11_put _ G m M q (nI (48 + ((z / 1000000) % 10))) (Nat.lt_of_lt_of_le (Nat.add_lt_add_left (show 0 < 10 by decide) q.2) hq)) rfl rfl 0 11 rfl rfl ⟨Nat.le_of_ble_eq_true rfl, Nat.le_of_ble_eq_true rfl⟩ (Nat.le_of_ble_eq_true rfl) (Nat.le_of_ble_eq_true rfl) (Nat.le_of_ble_eq_true rfl) (fun _ _ => ?_)
                refine J_iload_n hC dX11_printNumber_37 0 rfl rfl ?_
                refine J_bipush (v := 10) hC dX11_printNumber_38 (by decide +kernel) ?_
                refine J_idiv (v := 100000) hC dX11_printNumber_40 (by decide) (by decide) ?_
                refine J_istore_n hC [(3, .int 100000), (2, .int 1000000), (0, .ref (m 0)), (1, .int (nI z))] dX11_printNumber_41 rfl (by decide) rfl ?_
                refine J_goto (tgt := 20) hC dX11_printNumber_42 (by decide) ?_
                refine J_iload_n hC dX11_printNumber_20 0 rfl rfl ?_
                refine J_if_le (tgt := 45) hC dX11_printNumber_21 (by decide) (fun c => absurd c (by decide)) (fun _ => ?_)
                refine J_aload_n hC dX11_printNumber_24 2 rfl rfl ?_
                refine J_bipush (v := 48) hC dX11_printNumber_25 (by decide +kernel) ?_
                refine J_iload_n hC dX11_printNumber_27 3 rfl rfl ?_
                refine J_iload_n hC dX11_printNumber_28 0 rfl rfl ?_
                refine J_idiv (v := nI (z / 100000)) hC dX11_printNumber_29 (by decide) (pk_div (a := z) (d := 100000) (by first | exact hx31 | decide | exact lt31_div hx31 | exact lt31_mod (lt31_div hx31)) (by first | exact hx31 | decide | exact lt31_div hx31 | exact lt31_mod (lt31_div hx31)) (by first | exact hx31 | decide | exact lt31_div hx31 | exact lt31_mod (lt31_div hx31))) ?_
                refine J_bipush (v := 10) hC dX11_printNumber_30 (by decide +kernel) ?_
                refine J_irem (v := nI ((z / 100000) % 10)) hC dX11_printNumber_32 (by decide) (pk_rem (a := (z / 100000)) (d := 10) (by first | exact hx31 | decide | exact lt31_div hx31 | exact lt31_mod (lt31_div hx31)) (by first | exact hx31 | decide | exact lt31_div hx31 | exact lt31_mod (lt31_div hx31)) (by first | exact hx31 | decide | exact lt31_div hx31 | exact lt31_mod (lt31_div hx31))) ?_
                refine J_iadd (v := nI (48 + ((z / 100000) % 10))) hC dX11_printNumber_33 (nI_add 48 ((z / 100000) % 10)) ?_
                refine J_callVv hC dX11_printNumber_34 wl_X11_312 yi_X11_put (c_X11_put _ G m M (w_put (nI (48 + ((z / 1000000) % 10))) q) (nI (48 + ((z / 100000) % 10))) (Nat.lt_of_lt_of_le (Nat.add_lt_add_left (show 1 < 10 by decide) q.2) hq)) rfl rfl 0 11 rfl rfl ⟨Nat.le_of_ble_eq_true rfl, Nat.le_of_ble_eq_true rfl⟩ (Nat.le_of_ble_eq_true rfl) (Nat.le_of_ble_eq_true rfl) (Nat.le_of_ble_eq_true rfl) (fun _ _ => ?_)
                refine J_iload_n hC dX11_printNumber_37 0 rfl rfl ?_
                refine J_bipush (v := 10) hC dX11_printNumber_38 (by decide +kernel) ?_
                refine J_idiv (v := 10000) hC dX11_printNumber_40 (by decide) (by decide) ?_
                refine J_istore_n hC [(3, .int 10000), (2, .int 1000000), (0, .ref (m 0)), (1, .int (nI z))] dX11_printNumber_41 rfl (by decide) rfl ?_
                refine J_goto (tgt := 20) hC dX11_printNumber_42 (by decide) ?_
                refine J_iload_n hC dX11_printNumber_20 0 rfl rfl ?_
                refine J_if_le (tgt := 45) hC dX11_printNumber_21 (by decide) (fun c => absurd c (by decide)) (fun _ => ?_)
                refine J_aload_n hC dX11_printNumber_24 2 rfl rfl ?_
                refine J_bipush (v := 48) hC dX11_printNumber_25 (by decide +kernel) ?_
                refine J_iload_n hC dX11_printNumber_27 3 rfl rfl ?_
                refine J_iload_n hC dX11_printNumber_28 0 rfl rfl ?_
                refine J_idiv (v := nI (z / 10000)) hC dX11_printNumber_29 (by decide) (pk_div (a := z) (d := 10000) (by first | exact hx31 | decide | exact lt31_div hx31 | exact lt31_mod (lt31_div hx31)) (by first | exact hx31 | decide | exact lt31_div hx31 | exact lt31_mod (lt31_div hx31)) (by first | exact hx31 | decide | exact lt31_div hx31 | exact lt31_mod (lt31_div hx31))) ?_
                refine J_bipush (v := 10) hC dX11_printNumber_30 (by decide +kernel) ?_
                refine J_irem (v := nI ((z / 10000) % 10)) hC dX11_printNumber_32 (by decide) (pk_rem (a := (z / 10000)) (d := 10) (by first | exact hx31 | decide | exact lt31_div hx31 | exact lt31_mod (lt31_div hx31)) (by first | exact hx31 | decide | exact lt31_div hx31 | exact lt31_mod (lt31_div hx31)) (by first | exact hx31 | decide | exact lt31_div hx31 | exact lt31_mod (lt31_div hx31))) ?_
                refine J_iadd (v := nI (48 + ((z / 10000) % 10))) hC dX11_printNumber_33 (nI_add 48 ((z / 10000) % 10)) ?_
                refine J_callVv hC dX11_printNumber_34 wl_X11_312 yi_X11_put (c_X11_put _ G m M (w_put (nI (48 + ((z / 100000) % 10))) (w_put (nI (48 + ((z / 1000000) % 10))) q)) (nI (48 + ((z / 10000) % 10))) (Nat.lt_of_lt_of_le (Nat.add_lt_add_left (show 2 < 10 by decide) q.2) hq)) rfl rfl 0 11 rfl rfl ⟨Nat.le_of_ble_eq_true rfl, Nat.le_of_ble_eq_true rfl⟩ (Nat.le_of_ble_eq_true rfl) (Nat.le_of_ble_eq_true rfl) (Nat.le_of_ble_eq_true rfl) (fun _ _ => ?_)
                refine J_iload_n hC dX11_printNumber_37 0 rfl rfl ?_
                refine J_bipush (v := 10) hC dX11_printNumber_38 (by decide +kernel) ?_
                refine J_idiv (v := 1000) hC dX11_printNumber_40 (by decide) (by decide) ?_
                refine J_istore_n hC [(3, .int 1000), (2, .int 1000000), (0, .ref (m 0)), (1, .int (nI z))] dX11_printNumber_41 rfl (by decide) rfl ?_
                refine J_goto (tgt := 20) hC dX11_printNumber_42 (by decide) ?_
                refine J_iload_n hC dX11_printNumber_20 0 rfl rfl ?_
                refine J_if_le (tgt := 45) hC dX11_printNumber_21 (by decide) (fun c => absurd c (by decide)) (fun _ => ?_)
                refine J_aload_n hC dX11_printNumber_24 2 rfl rfl ?_
                refine J_bipush (v := 48) hC dX11_printNumber_25 (by decide +kernel) ?_
                refine J_iload_n hC dX11_printNumber_27 3 rfl rfl ?_
                refine J_iload_n hC dX11_printNumber_28 0 rfl rfl ?_
                refine J_idiv (v := nI (z / 1000)) hC dX11_printNumber_29 (by decide) (pk_div (a := z) (d := 1000) (by first | exact hx31 | decide | exact lt31_div hx31 | exact lt31_mod (lt31_div hx31)) (by first | exact hx31 | decide | exact lt31_div hx31 | exact lt31_mod (lt31_div hx31)) (by first | exact hx31 | decide | exact lt31_div hx31 | exact lt31_mod (lt31_div hx31))) ?_
                refine J_bipush (v := 10) hC dX11_printNumber_30 (by decide +kernel) ?_
                refine J_irem (v := nI ((z / 1000) % 10)) hC dX11_printNumber_32 (by decide) (pk_rem (a := (z / 1000)) (d := 10) (by first | exact hx31 | decide | exact lt31_div hx31 | exact lt31_mod (lt31_div hx31)) (by first | exact hx31 | decide | exact lt31_div hx31 | exact lt31_mod (lt31_div hx31)) (by first | exact hx31 | decide | exact lt31_div hx31 | exact lt31_mod (lt31_div hx31))) ?_
                refine J_iadd (v := nI (48 + ((z / 1000) % 10))) hC dX11_printNumber_33 (nI_add 48 ((z / 1000) % 10)) ?_
                refine J_callVv hC dX11_printNumber_34 wl_X11_312 yi_X11_put (c_X11_put _ G m M (w_put (nI (48 + ((z / 10000) % 10))) (w_put (nI (48 + ((z / 100000) % 10))) (w_put (nI (48 + ((z / 1000000) % 10))) q))) (nI (48 + ((z / 1000) % 10))) (Nat.lt_of_lt_of_le (Nat.add_lt_add_left (show 3 < 10 by decide) q.2) hq)) rfl rfl 0 11 rfl rfl ⟨Nat.le_of_ble_eq_true rfl, Nat.le_of_ble_eq_true rfl⟩ (Nat.le_of_ble_eq_true rfl) (Nat.le_of_ble_eq_true rfl) (Nat.le_of_ble_eq_true rfl) (fun _ _ => ?_)
                refine J_iload_n hC dX11_printNumber_37 0 rfl rfl ?_
                refine J_bipush (v := 10) hC dX11_printNumber_38 (by decide +kernel) ?_
                refine J_idiv (v := 100) hC dX11_printNumber_40 (by decide) (by decide) ?_
                refine J_istore_n hC [(3, .int 100), (2, .int 1000000), (0, .ref (m 0)), (1, .int (nI z))] dX11_printNumber_41 rfl (by decide) rfl ?_
                refine J_goto (tgt := 20) hC dX11_printNumber_42 (by decide) ?_
                refine J_iload_n hC dX11_printNumber_20 0 rfl rfl ?_
                refine J_if_le (tgt := 45) hC dX11_printNumber_21 (by decide) (fun c => absurd c (by decide)) (fun _ => ?_)
                refine J_aload_n hC dX11_printNumber_24 2 rfl rfl ?_
                refine J_bipush (v := 48) hC dX11_printNumber_25 (by decide +kernel) ?_
                refine J_iload_n hC dX11_printNumber_27 3 rfl rfl ?_
                refine J_iload_n hC dX11_printNumber_28 0 rfl rfl ?_
                refine J_idiv (v := nI (z / 100)) hC dX11_printNumber_29 (by decide) (pk_div (a := z) (d := 100) (by first | exact hx31 | decide | exact lt31_div hx31 | exact lt31_mod (lt31_div hx31)) (by first | exact hx31 | decide | exact lt31_div hx31 | exact lt31_mod (lt31_div hx31)) (by first | exact hx31 | decide | exact lt31_div hx31 | exact lt31_mod (lt31_div hx31))) ?_
                refine J_bipush (v := 10) hC dX11_printNumber_30 (by decide +kernel) ?_
                refine J_irem (v := nI ((z / 100) % 10)) hC dX11_printNumber_32 (by decide) (pk_rem (a := (z / 100)) (d := 10) (by first | exact hx31 | decide | exact lt31_div hx31 | exact lt31_mod (lt31_div hx31)) (by first | exact hx31 | decide | exact lt31_div hx31 | exact lt31_mod (lt31_div hx31)) (by first | exact hx31 | decide | exact lt31_div hx31 | exact lt31_mod (lt31_div hx31))) ?_
                refine J_iadd (v := nI (48 + ((z / 100) % 10))) hC dX11_printNumber_33 (nI_add 48 ((z / 100) % 10)) ?_
                refine J_callVv hC dX11_printNumber_34 wl_X11_312 yi_X11_put (c_X11_put _ G m M (w_put (nI (48 + ((z / 1000) % 10))) (w_put (nI (48 + ((z / 10000) % 10))) (w_put (nI (48 + ((z / 100000) % 10))) (w_put (nI (48 + ((z / 1000000) % 10))) q)))) (nI (48 + ((z / 100) % 10))) (Nat.lt_of_lt_of_le (Nat.add_lt_add_left (show 4 < 10 by decide) q.2) hq)) rfl rfl 0 11 rfl rfl ⟨Nat.le_of_ble_eq_true rfl, Nat.le_of_ble_eq_true rfl⟩ (Nat.le_of_ble_eq_true rfl) (Nat.le_of_ble_eq_true rfl) (Nat.le_of_ble_eq_true rfl) (fun _ _ => ?_)
                refine J_iload_n hC dX11_printNumber_37 0 rfl rfl ?_
                refine J_bipush (v := 10) hC dX11_printNumber_38 (by decide +kernel) ?_
                refine J_idiv (v := 10) hC dX11_printNumber_40 (by decide) (by decide) ?_
                refine J_istore_n hC [(3, .int 10), (2, .int 1000000), (0, .ref (m 0)), (1, .int (nI z))] dX11_printNumber_41 rfl (by decide) rfl ?_
                refine J_goto (tgt := 20) hC dX11_printNumber_42 (by decide) ?_
                refine J_iload_n hC dX11_printNumber_20 0 rfl rfl ?_
                refine J_if_le (tgt := 45) hC dX11_printNumber_21 (by decide) (fun c => absurd c (by decide)) (fun _ => ?_)
                refine J_aload_n hC dX11_printNumber_24 2 rfl rfl ?_
                refine J_bipush (v := 48) hC dX11_printNumber_25 (by decide +kernel) ?_
                refine J_iload_n hC dX11_printNumber_27 3 rfl rfl ?_
                refine J_iload_n hC dX11_printNumber_28 0 rfl rfl ?_
                refine J_idiv (v := nI (z / 10)) hC dX11_printNumber_29 (by decide) (pk_div (a := z) (d := 10) (by first | exact hx31 | decide | exact lt31_div hx31 | exact lt31_mod (lt31_div hx31)) (by first | exact hx31 | decide | exact lt31_div hx31 | exact lt31_mod (lt31_div hx31)) (by first | exact hx31 | decide | exact lt31_div hx31 | exact lt31_mod (lt31_div hx31))) ?_
                refine J_bipush (v := 10) hC dX11_printNumber_30 (by decide +kernel) ?_
                refine J_irem (v := nI ((z / 10) % 10)) hC dX11_printNumber_32 (by decide) (pk_rem (a := (z / 10)) (d := 10) (by first | exact hx31 | decide | exact lt31_div hx31 | exact lt31_mod (lt31_div hx31)) (by first | exact hx31 | decide | exact lt31_div hx31 | exact lt31_mod (lt31_div hx31)) (by first | exact hx31 | decide | exact lt31_div hx31 | exact lt31_mod (lt31_div hx31))) ?_
                refine J_iadd (v := nI (48 + ((z / 10) % 10))) hC dX11_printNumber_33 (nI_add 48 ((z / 10) % 10)) ?_
                refine J_callVv hC dX11_printNumber_34 wl_X11_312 yi_X11_put (c_X11_put _ G m M (w_put (nI (48 + ((z / 100) % 10))) (w_put (nI (48 + ((z / 1000) % 10))) (w_put (nI (48 + ((z / 10000) % 10))) (w_put (nI (48 + ((z / 100000) % 10))) (w_put (nI (48 + ((z / 1000000) % 10))) q))))) (nI (48 + ((z / 10) % 10))) (Nat.lt_of_lt_of_le (Nat.add_lt_add_left (show 5 < 10 by decide) q.2) hq)) rfl rfl 0 11 rfl rfl ⟨Nat.le_of_ble_eq_true rfl, Nat.le_of_ble_eq_true rfl⟩ (Nat.le_of_ble_eq_true rfl) (Nat.le_of_ble_eq_true rfl) (Nat.le_of_ble_eq_true rfl) (fun _ _ => ?_)
                refine J_iload_n hC dX11_printNumber_37 0 rfl rfl ?_
                refine J_bipush (v := 10) hC dX11_printNumber_38 (by decide +kernel) ?_
                refine J_idiv (v := 1) hC dX11_printNumber_40 (by decide) (by decide) ?_
                refine J_istore_n hC [(3, .int 1), (2, .int 1000000), (0, .ref (m 0)), (1, .int (nI z))] dX11_printNumber_41 rfl (by decide) rfl ?_
                refine J_goto (tgt := 20) hC dX11_printNumber_42 (by decide) ?_
                refine J_iload_n hC dX11_printNumber_20 0 rfl rfl ?_
                refine J_if_le (tgt := 45) hC dX11_printNumber_21 (by decide) (fun c => absurd c (by decide)) (fun _ => ?_)
                refine J_aload_n hC dX11_printNumber_24 2 rfl rfl ?_
                refine J_bipush (v := 48) hC dX11_printNumber_25 (by decide +kernel) ?_
                refine J_iload_n hC dX11_printNumber_27 3 rfl rfl ?_
                refine J_iload_n hC dX11_printNumber_28 0 rfl rfl ?_
                refine J_idiv (v := nI (z / 1)) hC dX11_printNumber_29 (by decide) (pk_div (a := z) (d := 1) (by first | exact hx31 | decide | exact lt31_div hx31 | exact lt31_mod (lt31_div hx31)) (by first | exact hx31 | decide | exact lt31_div hx31 | exact lt31_mod (lt31_div hx31)) (by first | exact hx31 | decide | exact lt31_div hx31 | exact lt31_mod (lt31_div hx31))) ?_
                refine J_bipush (v := 10) hC dX11_printNumber_30 (by decide +kernel) ?_
                refine J_irem (v := nI ((z / 1) % 10)) hC dX11_printNumber_32 (by decide) (pk_rem (a := (z / 1)) (d := 10) (by first | exact hx31 | decide | exact lt31_div hx31 | exact lt31_mod (lt31_div hx31)) (by first | exact hx31 | decide | exact lt31_div hx31 | exact lt31_mod (lt31_div hx31)) (by first | exact hx31 | decide | exact lt31_div hx31 | exact lt31_mod (lt31_div hx31))) ?_
                refine J_iadd (v := nI (48 + ((z / 1) % 10))) hC dX11_printNumber_33 (nI_add 48 ((z / 1) % 10)) ?_
                refine J_callVv hC dX11_printNumber_34 wl_X11_312 yi_X11_put (c_X11_put _ G m M (w_put (nI (48 + ((z / 10) % 10))) (w_put (nI (48 + ((z / 100) % 10))) (w_put (nI (48 + ((z / 1000) % 10))) (w_put (nI (48 + ((z / 10000) % 10))) (w_put (nI (48 + ((z / 100000) % 10))) (w_put (nI (48 + ((z / 1000000) % 10))) q)))))) (nI (48 + ((z / 1) % 10))) (Nat.lt_of_lt_of_le (Nat.add_lt_add_left (show 6 < 10 by decide) q.2) hq)) rfl rfl 0 11 rfl rfl ⟨Nat.le_of_ble_eq_true rfl, Nat.le_of_ble_eq_true rfl⟩ (Nat.le_of_ble_eq_true rfl) (Nat.le_of_ble_eq_true rfl) (Nat.le_of_ble_eq_true rfl) (fun _ _ => ?_)
                refine J_iload_n hC dX11_printNumber_37 0 rfl rfl ?_
                refine J_bipush (v := 10) hC dX11_printNumber_38 (by decide +kernel) ?_
                refine J_idiv (v := 0) hC dX11_printNumber_40 (by decide) (by decide) ?_
                refine J_istore_n hC [(3, .int 0), (2, .int 1000000), (0, .ref (m 0)), (1, .int (nI z))] dX11_printNumber_41 rfl (by decide) rfl ?_
                refine J_goto (tgt := 20) hC dX11_printNumber_42 (by decide) ?_
                refine J_iload_n hC dX11_printNumber_20 0 rfl rfl ?_
                refine J_if_le (tgt := 45) hC dX11_printNumber_21 (by decide) (fun _ => ?_) (fun c => absurd (by decide) c)
                refine J_vret hC hR dX11_printNumber_45 () ?_ ?_ (by decide) (by decide)
                · trivial
                · refine congrArg (fun z => mdW G m (outW M z)) ?_
                  rw [w_dec, w_units, List.foldl_cons, if_neg (fun h => h.elim (dig_lt c_7_6 (by decide) (by decide)) (by decide)), List.foldl_cons, if_neg (fun h => h.elim (dig_lt c_7_6 (by decide) (by decide)) (by decide)), List.foldl_cons, if_neg (fun h => h.elim (dig_lt c_7_6 (by decide) (by decide)) (by decide)), List.foldl_cons, if_pos (Or.inl (dig_ge c_7_5 (by decide))), List.foldl_cons, if_pos (Or.inl (dig_ge c_7_5 (by decide))), List.foldl_cons, if_pos (Or.inl (dig_ge c_7_5 (by decide))), List.foldl_cons, if_pos (Or.inl (dig_ge c_7_5 (by decide))), List.foldl_cons, if_pos (Or.inl (dig_ge c_7_5 (by decide))), List.foldl_cons, if_pos (Or.inl (dig_ge c_7_5 (by decide))), List.foldl_cons, if_pos (Or.inr rfl), List.foldl_nil]
              · exact absurd (dig_ge (u := 10000000) c_7_6 (by decide)) (Nat.not_le.mpr (Nat.lt_of_le_of_lt hx (by decide)))

set_option maxRecDepth 100000 in
set_option maxHeartbeats 4000000 in
theorem c_X11_writePage (l : Launch) (G : gT) (m : Nat → Nat) (M : CT) (bc : Nat) (vc : Nat) (fc : Nat) (mc : Nat) (v : Int32) (hbc : M 0 8 = nI bc) (bbc : bc ≤ 30) (hvc : M 0 6 = nI vc) (bvc : vc ≤ 6) (hfc : M 0 7 = nI fc) (bfc : fc ≤ 6) (hmc : M 0 9 = nI mc) (bmc : mc ≤ 10) (hmI : mI (M 0) bc vc fc mc) (hmN : mN (M 0) bc vc) : MI l yX11_writePage cX11_writePage 4 (some .int) { frames := 3, cells := 0, slots := 0, locals := 66 } [.ref (m 0), .int v] G (mdW G m M) (fun r (u : CT) => ((inr v ((bc + 4 - 1) / 4)) ∧ nI ((w_page (M 0) (cl v) bc (M 7, 0)).2) = r ∧ (outW (us M 8 2 0) (w_page (M 0) (cl v) bc (M 7, 0))) = u) ∨ ((¬ inr v ((bc + 4 - 1) / 4)) ∧ 0 = r ∧ (us M 8 2 1) = u)) (fun u => mdW G m u) := by
  refine jm_i (own := RX11) (by decide) rfl (Nat.le_of_ble_eq_true rfl) (fun x hl hC hR hN => ?_)
  subst hl
  have key : ∀ fuel : Nat, (∀ (k : Nat) (q : RT × Nat), (inr v ((bc + 4 - 1) / 4)) → (4 * cl v ≤ k ∧ k ≤ min bc (4 * cl v + 4)) → (q.2 ≤ 16 * (k - 4 * cl v)) → ((w_page (M 0) (cl v) bc (M 7, 0)) = fo (w_fc (M 0)) k (min bc (4 * cl v + 4) - k) q) → min bc (4 * cl v + 4) - k < fuel → J x G (mdW G m (outW (us M 8 2 0) q)) 0 0 [(0, .ref (m 0)), (1, .int (nI (cl v))), (2, .int (nI k))] [] 19) := by
    intro fuel
    induction fuel with
    | zero => exact fun _ _ _ _ _ _ h => absurd h (Nat.not_lt_zero _)
    | succ fuel ih =>
      intro k q hin hk hq hI hmu
      obtain ⟨ev, hv⟩ := inr_eq hin (by omega)
      refine J_iload_n hC dX11_writePage_19 2 rfl rfl ?_
      refine J_aload_n hC dX11_writePage_20 0 rfl rfl ?_
      refine J_get (v := .ref (m 1)) hC wu_X11 rfl dX11_writePage_21 0 0 (by decide) wf_X11_7 rfl rfl ?_
      refine J_iload_n hC dX11_writePage_24 1 rfl rfl ?_
      refine J_callSi hC dX11_writePage_25 wl_X11_77 wi_X11 yi_X11_pageEnd (mdl0_ir (c_X11_pageEnd _ G (m 1) (M 0) bc (cl v) (hbc) (by omega) (by omega))) rfl rfl ⟨Nat.le_of_ble_eq_true rfl, Nat.le_of_ble_eq_true rfl⟩ (Nat.le_of_ble_eq_true rfl) (Nat.le_of_ble_eq_true rfl) (Nat.le_of_ble_eq_true rfl) (fun r u h_25 => ?_)
      subst h_25
      refine J_ic_geN (a := k) (b := min bc (4 * (cl v) + 4)) (tgt := 110) hC dX11_writePage_28 (by decide) (by omega) (by omega) (fun (c_28 : (min bc (4 * (cl v) + 4)) ≤ k) => ?_) (fun (c_28 : k < (min bc (4 * (cl v) + 4))) => ?_)
      · refine J_aload_n hC dX11_writePage_110 0 rfl rfl ?_
        refine J_get (v := .int (nI q.2)) hC wu_X11 rfl dX11_writePage_111 0 19 (by decide) wf_X11_309 rfl rfl ?_
        refine J_iret hC hR dX11_writePage_114 rfl (outW (us M 8 2 0) q) ?_ ?_ (by decide) (by decide)
        · exact Or.inl ⟨hin, by rw [hI, fo_done c_28], by rw [hI, fo_done c_28]⟩
        · rfl
      · obtain ⟨w, hw, ew⟩ := hmI.2.2.2.2.1 k (by omega)
        obtain ⟨x, hx, ex⟩ := hmN.1 w hw
        obtain ⟨d, hd, ed⟩ := hmN.2 k (by omega)
        have evo : vOf (M 0) k = w := by rw [vOf, ew, nI_clamp (by omega)]
        refine J_aload_n hC dX11_writePage_31 0 rfl rfl ?_
        refine J_get (v := .int (nI q.2)) hC wu_X11 rfl dX11_writePage_32 0 19 (by decide) wf_X11_309 rfl rfl ?_
        refine J_if_leN (a := q.2) (tgt := 44) hC dX11_writePage_35 (by decide) (by omega) (fun (c_35 : q.2 = 0) => ?_) (fun (c_35 : 0 < q.2) => ?_)
        · refine J_aload_n hC dX11_writePage_44 0 rfl rfl ?_
          refine J_aload_n hC dX11_writePage_45 0 rfl rfl ?_
          refine J_get (v := .ref (m 1)) hC wu_X11 rfl dX11_writePage_46 0 0 (by decide) wf_X11_7 rfl rfl ?_
          refine J_aload_n hC dX11_writePage_49 0 rfl rfl ?_
          refine J_get (v := .ref (m 1)) hC wu_X11 rfl dX11_writePage_50 0 0 (by decide) wf_X11_7 rfl rfl ?_
          refine J_iload_n hC dX11_writePage_53 2 rfl rfl ?_
          refine J_callSi hC dX11_writePage_54 wl_X11_69 wi_X11 yi_X11_ofForecast (c_X11_ofForecast _ G (mdW G m (outW (us M 8 2 0) q)) k) rfl rfl ⟨Nat.le_of_ble_eq_true rfl, Nat.le_of_ble_eq_true rfl⟩ (Nat.le_of_ble_eq_true rfl) (Nat.le_of_ble_eq_true rfl) (Nat.le_of_ble_eq_true rfl) (fun r u h_54 => ?_)
          subst h_54
          refine J_iconst (v := 0) hC dX11_writePage_57 rfl ?_
          refine J_iadd (v := nI (72 + 5 * k)) hC dX11_writePage_58 (Int32.add_zero _) ?_
          refine J_iald (i := 72 + 5 * k) (v := M 0 (72 + 5 * k)) hC dX11_writePage_59 1 rfl (by omega) (by decide) rfl ?_
          refine J_topi ew ?_
          refine J_callSi hC dX11_writePage_60 wl_X11_81 wi_X11 yi_X11_ofVillage (c_X11_ofVillage _ G (mdW G m (outW (us M 8 2 0) q)) w) rfl rfl ⟨Nat.le_of_ble_eq_true rfl, Nat.le_of_ble_eq_true rfl⟩ (Nat.le_of_ble_eq_true rfl) (Nat.le_of_ble_eq_true rfl) (Nat.le_of_ble_eq_true rfl) (fun r u h_60 => ?_)
          subst h_60
          refine J_iconst (v := 0) hC dX11_writePage_63 rfl ?_
          refine J_iadd (v := nI (24 + 3 * w)) hC dX11_writePage_64 (Int32.add_zero _) ?_
          refine J_iald (i := 24 + 3 * w) (v := M 0 (24 + 3 * w)) hC dX11_writePage_65 1 rfl (by omega) (by decide) rfl ?_
          refine J_topi ex ?_
          refine J_callVv hC dX11_writePage_66 wl_X11_315 yi_X11_printName (c_X11_printName _ G m (us M 8 2 0) q x (by omega) (by omega)) rfl rfl 0 11 rfl rfl ⟨Nat.le_of_ble_eq_true rfl, Nat.le_of_ble_eq_true rfl⟩ (Nat.le_of_ble_eq_true rfl) (Nat.le_of_ble_eq_true rfl) (Nat.le_of_ble_eq_true rfl) (fun _ _ => ?_)
          have hn4 : (w_nam x q).2 ≤ q.2 + 0 + 4 := w_nam_le x q
          refine J_aload_n hC dX11_writePage_69 0 rfl rfl ?_
          refine J_aload_n hC dX11_writePage_70 0 rfl rfl ?_
          refine J_get (v := .ref (m 1)) hC wu_X11 rfl dX11_writePage_71 0 0 (by decide) wf_X11_7 rfl rfl ?_
          refine J_iload_n hC dX11_writePage_74 2 rfl rfl ?_
          refine J_callSi hC dX11_writePage_75 wl_X11_69 wi_X11 yi_X11_ofForecast (c_X11_ofForecast _ G (mdW G m (outW (us M 8 2 0) (w_nam x q))) k) rfl rfl ⟨Nat.le_of_ble_eq_true rfl, Nat.le_of_ble_eq_true rfl⟩ (Nat.le_of_ble_eq_true rfl) (Nat.le_of_ble_eq_true rfl) (Nat.le_of_ble_eq_true rfl) (fun r u h_75 => ?_)
          subst h_75
          refine J_iconst (v := 1) hC dX11_writePage_78 rfl ?_
          refine J_iadd (v := nI (73 + 5 * k)) hC dX11_writePage_79 ((nI_add (72 + 5 * k) 1).trans (congrArg nI (by omega))) ?_
          refine J_iald (i := 73 + 5 * k) (v := M 0 (73 + 5 * k)) hC dX11_writePage_80 1 rfl (by omega) (by decide) rfl ?_
          refine J_topi ed ?_
          refine J_callVv hC dX11_writePage_81 wl_X11_318 yi_X11_printNumber (c_X11_printNumber _ G m (us M 8 2 0) (w_nam x q) d (by omega) (by omega)) rfl rfl 0 11 rfl rfl ⟨Nat.le_of_ble_eq_true rfl, Nat.le_of_ble_eq_true rfl⟩ (Nat.le_of_ble_eq_true rfl) (Nat.le_of_ble_eq_true rfl) (Nat.le_of_ble_eq_true rfl) (fun _ _ => ?_)
          have hd10 := w_dec_le d (w_nam x q)
          refine J_aload_n hC dX11_writePage_84 0 rfl rfl ?_
          refine J_get (v := .ref (m 1)) hC wu_X11 rfl dX11_writePage_85 0 0 (by decide) wf_X11_7 rfl rfl ?_
          refine J_iload_n hC dX11_writePage_88 2 rfl rfl ?_
          refine J_callSi hC dX11_writePage_89 wl_X11_69 wi_X11 yi_X11_ofForecast (c_X11_ofForecast _ G (mdW G m (outW (us M 8 2 0) (w_dec d (w_nam x q)))) k) rfl rfl ⟨Nat.le_of_ble_eq_true rfl, Nat.le_of_ble_eq_true rfl⟩ (Nat.le_of_ble_eq_true rfl) (Nat.le_of_ble_eq_true rfl) (Nat.le_of_ble_eq_true rfl) (fun r u h_89 => ?_)
          subst h_89
          refine J_iconst (v := 2) hC dX11_writePage_92 rfl ?_
          refine J_iadd (v := nI (74 + 5 * k)) hC dX11_writePage_93 ((nI_add (72 + 5 * k) 2).trans (congrArg nI (by omega))) ?_
          refine J_iald (i := 74 + 5 * k) (v := M 0 (74 + 5 * k)) hC dX11_writePage_94 1 rfl (by omega) (by decide) rfl ?_
          refine J_istore_n hC [(3, .int (M 0 (74 + 5 * k))), (0, .ref (m 0)), (1, .int (nI (cl v))), (2, .int (nI k))] dX11_writePage_95 rfl (by decide) rfl ?_
          refine J_aload_n hC dX11_writePage_96 1 rfl rfl ?_
          refine J_iload_n hC dX11_writePage_97 0 rfl rfl ?_
          refine J_callSi hC dX11_writePage_98 wl_X11_321 wi_X11 yi_X11_letterOf (c_X11_letterOf _ G (mdW G m (outW (us M 8 2 0) (w_dec d (w_nam x q)))) (M 0 (74 + 5 * k))) rfl rfl ⟨Nat.le_of_ble_eq_true rfl, Nat.le_of_ble_eq_true rfl⟩ (Nat.le_of_ble_eq_true rfl) (Nat.le_of_ble_eq_true rfl) (Nat.le_of_ble_eq_true rfl) (fun r u h_98 => ?_)
          subst h_98
          refine J_callVv hC dX11_writePage_101 wl_X11_312 yi_X11_put (c_X11_put _ G m (us M 8 2 0) (w_dec d (w_nam x q)) (if (M 0 (74 + 5 * k)) = 0 then 115 else if (M 0 (74 + 5 * k)) = 1 then 114 else 116) (by first | omega | (simp only [w_put]; omega))) rfl rfl 0 11 rfl rfl ⟨Nat.le_of_ble_eq_true rfl, Nat.le_of_ble_eq_true rfl⟩ (Nat.le_of_ble_eq_true rfl) (Nat.le_of_ble_eq_true rfl) (Nat.le_of_ble_eq_true rfl) (fun _ _ => ?_)
          refine J_iinc hC [(2, .int (nI (k + 1))), (3, .int (M 0 (74 + 5 * k))), (0, .ref (m 0)), (1, .int (nI (cl v)))] dX11_writePage_104 3 rfl (nI_inc _) (by decide) rfl ?_
          refine J_goto (tgt := 19) hC dX11_writePage_107 (by decide) ?_
          refine J_lv (lv' := [(0, .ref (m 0)), (1, .int (nI (cl v))), (2, .int (nI (k + 1)))]) [2, 3, 0] rfl ?_
          exact ih (k + 1) (w_put (if (M 0 (74 + 5 * k)) = 0 then 115 else if (M 0 (74 + 5 * k)) = 1 then 114 else 116) (w_dec d (w_nam x q))) (hin) (by omega) (Nat.le_trans (Nat.succ_le_succ hd10) (by omega)) (hI.trans ((fo_step c_28).trans (congrArg _ (by rw [w_fc, evo, ex, ed, cl, nI_clamp (by omega), cl, nI_clamp (by omega), show (if 0 < q.2 then w_put 32 q else q) = q from if_neg (by omega)])))) (by omega)
        · refine J_aload_n hC dX11_writePage_38 0 rfl rfl ?_
          refine J_bipush (v := 32) hC dX11_writePage_39 (by decide +kernel) ?_
          refine J_callVv hC dX11_writePage_41 wl_X11_312 yi_X11_put (c_X11_put _ G m (us M 8 2 0) q 32 (by first | omega | (simp only [w_put]; omega))) rfl rfl 0 11 rfl rfl ⟨Nat.le_of_ble_eq_true rfl, Nat.le_of_ble_eq_true rfl⟩ (Nat.le_of_ble_eq_true rfl) (Nat.le_of_ble_eq_true rfl) (Nat.le_of_ble_eq_true rfl) (fun _ _ => ?_)
          refine J_aload_n hC dX11_writePage_44 0 rfl rfl ?_
          refine J_aload_n hC dX11_writePage_45 0 rfl rfl ?_
          refine J_get (v := .ref (m 1)) hC wu_X11 rfl dX11_writePage_46 0 0 (by decide) wf_X11_7 rfl rfl ?_
          refine J_aload_n hC dX11_writePage_49 0 rfl rfl ?_
          refine J_get (v := .ref (m 1)) hC wu_X11 rfl dX11_writePage_50 0 0 (by decide) wf_X11_7 rfl rfl ?_
          refine J_iload_n hC dX11_writePage_53 2 rfl rfl ?_
          refine J_callSi hC dX11_writePage_54 wl_X11_69 wi_X11 yi_X11_ofForecast (c_X11_ofForecast _ G (mdW G m (outW (us M 8 2 0) (w_put 32 q))) k) rfl rfl ⟨Nat.le_of_ble_eq_true rfl, Nat.le_of_ble_eq_true rfl⟩ (Nat.le_of_ble_eq_true rfl) (Nat.le_of_ble_eq_true rfl) (Nat.le_of_ble_eq_true rfl) (fun r u h_54 => ?_)
          subst h_54
          refine J_iconst (v := 0) hC dX11_writePage_57 rfl ?_
          refine J_iadd (v := nI (72 + 5 * k)) hC dX11_writePage_58 (Int32.add_zero _) ?_
          refine J_iald (i := 72 + 5 * k) (v := M 0 (72 + 5 * k)) hC dX11_writePage_59 1 rfl (by omega) (by decide) rfl ?_
          refine J_topi ew ?_
          refine J_callSi hC dX11_writePage_60 wl_X11_81 wi_X11 yi_X11_ofVillage (c_X11_ofVillage _ G (mdW G m (outW (us M 8 2 0) (w_put 32 q))) w) rfl rfl ⟨Nat.le_of_ble_eq_true rfl, Nat.le_of_ble_eq_true rfl⟩ (Nat.le_of_ble_eq_true rfl) (Nat.le_of_ble_eq_true rfl) (Nat.le_of_ble_eq_true rfl) (fun r u h_60 => ?_)
          subst h_60
          refine J_iconst (v := 0) hC dX11_writePage_63 rfl ?_
          refine J_iadd (v := nI (24 + 3 * w)) hC dX11_writePage_64 (Int32.add_zero _) ?_
          refine J_iald (i := 24 + 3 * w) (v := M 0 (24 + 3 * w)) hC dX11_writePage_65 1 rfl (by omega) (by decide) rfl ?_
          refine J_topi ex ?_
          refine J_callVv hC dX11_writePage_66 wl_X11_315 yi_X11_printName (c_X11_printName _ G m (us M 8 2 0) (w_put 32 q) x (by omega) (by show q.2 + 1 + 4 ≤ 80; omega)) rfl rfl 0 11 rfl rfl ⟨Nat.le_of_ble_eq_true rfl, Nat.le_of_ble_eq_true rfl⟩ (Nat.le_of_ble_eq_true rfl) (Nat.le_of_ble_eq_true rfl) (Nat.le_of_ble_eq_true rfl) (fun _ _ => ?_)
          have hn4 : (w_nam x (w_put 32 q)).2 ≤ q.2 + 1 + 4 := w_nam_le x (w_put 32 q)
          refine J_aload_n hC dX11_writePage_69 0 rfl rfl ?_
          refine J_aload_n hC dX11_writePage_70 0 rfl rfl ?_
          refine J_get (v := .ref (m 1)) hC wu_X11 rfl dX11_writePage_71 0 0 (by decide) wf_X11_7 rfl rfl ?_
          refine J_iload_n hC dX11_writePage_74 2 rfl rfl ?_
          refine J_callSi hC dX11_writePage_75 wl_X11_69 wi_X11 yi_X11_ofForecast (c_X11_ofForecast _ G (mdW G m (outW (us M 8 2 0) (w_nam x (w_put 32 q)))) k) rfl rfl ⟨Nat.le_of_ble_eq_true rfl, Nat.le_of_ble_eq_true rfl⟩ (Nat.le_of_ble_eq_true rfl) (Nat.le_of_ble_eq_true rfl) (Nat.le_of_ble_eq_true rfl) (fun r u h_75 => ?_)
          subst h_75
          refine J_iconst (v := 1) hC dX11_writePage_78 rfl ?_
          refine J_iadd (v := nI (73 + 5 * k)) hC dX11_writePage_79 ((nI_add (72 + 5 * k) 1).trans (congrArg nI (by omega))) ?_
          refine J_iald (i := 73 + 5 * k) (v := M 0 (73 + 5 * k)) hC dX11_writePage_80 1 rfl (by omega) (by decide) rfl ?_
          refine J_topi ed ?_
          refine J_callVv hC dX11_writePage_81 wl_X11_318 yi_X11_printNumber (c_X11_printNumber _ G m (us M 8 2 0) (w_nam x (w_put 32 q)) d (by omega) (by omega)) rfl rfl 0 11 rfl rfl ⟨Nat.le_of_ble_eq_true rfl, Nat.le_of_ble_eq_true rfl⟩ (Nat.le_of_ble_eq_true rfl) (Nat.le_of_ble_eq_true rfl) (Nat.le_of_ble_eq_true rfl) (fun _ _ => ?_)
          have hd10 := w_dec_le d (w_nam x (w_put 32 q))
          refine J_aload_n hC dX11_writePage_84 0 rfl rfl ?_
          refine J_get (v := .ref (m 1)) hC wu_X11 rfl dX11_writePage_85 0 0 (by decide) wf_X11_7 rfl rfl ?_
          refine J_iload_n hC dX11_writePage_88 2 rfl rfl ?_
          refine J_callSi hC dX11_writePage_89 wl_X11_69 wi_X11 yi_X11_ofForecast (c_X11_ofForecast _ G (mdW G m (outW (us M 8 2 0) (w_dec d (w_nam x (w_put 32 q))))) k) rfl rfl ⟨Nat.le_of_ble_eq_true rfl, Nat.le_of_ble_eq_true rfl⟩ (Nat.le_of_ble_eq_true rfl) (Nat.le_of_ble_eq_true rfl) (Nat.le_of_ble_eq_true rfl) (fun r u h_89 => ?_)
          subst h_89
          refine J_iconst (v := 2) hC dX11_writePage_92 rfl ?_
          refine J_iadd (v := nI (74 + 5 * k)) hC dX11_writePage_93 ((nI_add (72 + 5 * k) 2).trans (congrArg nI (by omega))) ?_
          refine J_iald (i := 74 + 5 * k) (v := M 0 (74 + 5 * k)) hC dX11_writePage_94 1 rfl (by omega) (by decide) rfl ?_
          refine J_istore_n hC [(3, .int (M 0 (74 + 5 * k))), (0, .ref (m 0)), (1, .int (nI (cl v))), (2, .int (nI k))] dX11_writePage_95 rfl (by decide) rfl ?_
          refine J_aload_n hC dX11_writePage_96 1 rfl rfl ?_
          refine J_iload_n hC dX11_writePage_97 0 rfl rfl ?_
          refine J_callSi hC dX11_writePage_98 wl_X11_321 wi_X11 yi_X11_letterOf (c_X11_letterOf _ G (mdW G m (outW (us M 8 2 0) (w_dec d (w_nam x (w_put 32 q))))) (M 0 (74 + 5 * k))) rfl rfl ⟨Nat.le_of_ble_eq_true rfl, Nat.le_of_ble_eq_true rfl⟩ (Nat.le_of_ble_eq_true rfl) (Nat.le_of_ble_eq_true rfl) (Nat.le_of_ble_eq_true rfl) (fun r u h_98 => ?_)
          subst h_98
          refine J_callVv hC dX11_writePage_101 wl_X11_312 yi_X11_put (c_X11_put _ G m (us M 8 2 0) (w_dec d (w_nam x (w_put 32 q))) (if (M 0 (74 + 5 * k)) = 0 then 115 else if (M 0 (74 + 5 * k)) = 1 then 114 else 116) (by first | omega | (simp only [w_put]; omega))) rfl rfl 0 11 rfl rfl ⟨Nat.le_of_ble_eq_true rfl, Nat.le_of_ble_eq_true rfl⟩ (Nat.le_of_ble_eq_true rfl) (Nat.le_of_ble_eq_true rfl) (Nat.le_of_ble_eq_true rfl) (fun _ _ => ?_)
          refine J_iinc hC [(2, .int (nI (k + 1))), (3, .int (M 0 (74 + 5 * k))), (0, .ref (m 0)), (1, .int (nI (cl v)))] dX11_writePage_104 3 rfl (nI_inc _) (by decide) rfl ?_
          refine J_goto (tgt := 19) hC dX11_writePage_107 (by decide) ?_
          refine J_lv (lv' := [(0, .ref (m 0)), (1, .int (nI (cl v))), (2, .int (nI (k + 1)))]) [2, 3, 0] rfl ?_
          exact ih (k + 1) (w_put (if (M 0 (74 + 5 * k)) = 0 then 115 else if (M 0 (74 + 5 * k)) = 1 then 114 else 116) (w_dec d (w_nam x (w_put 32 q)))) (hin) (by omega) (Nat.le_trans (Nat.succ_le_succ hd10) (by omega)) (hI.trans ((fo_step c_28).trans (congrArg _ (by rw [w_fc, evo, ex, ed, cl, nI_clamp (by omega), cl, nI_clamp (by omega), show (if 0 < q.2 then w_put 32 q else q) = w_put 32 q from if_pos c_35])))) (by omega)
  refine J_aload_n hC dX11_writePage_0 0 rfl rfl ?_
  refine J_iload_n hC dX11_writePage_1 1 rfl rfl ?_
  refine J_callVi hC dX11_writePage_2 wl_X11_300 yi_X11_noPage (c_X11_noPage _ G m M bc v (hbc) (by omega)) rfl rfl 0 11 rfl rfl ⟨Nat.le_of_ble_eq_true rfl, Nat.le_of_ble_eq_true rfl⟩ (Nat.le_of_ble_eq_true rfl) (Nat.le_of_ble_eq_true rfl) (Nat.le_of_ble_eq_true rfl) (fun r u h_2 => ?_)
  rcases h_2 with ⟨c_2, rfl, rfl⟩ | ⟨c_2, rfl, rfl⟩
  · refine J_if_eq (tgt := 10) hC dX11_writePage_5 (by decide) (fun _ => ?_) (fun c => absurd (by decide) c)
    obtain ⟨ev, hv⟩ := inr_eq c_2 (by omega)
    refine J_lvq (lv' := [(0, .ref (m 0)), (1, .int (nI (cl v)))]) (by rw [← ev]; first | done | rfl) ?_
    refine J_aload_n hC dX11_writePage_10 0 rfl rfl ?_
    refine J_iconst (v := 0) hC dX11_writePage_11 rfl ?_
    refine J_put (ws' := mdW G m (us (us M 8 2 0) 8 11 0)) hC wu_X11 rfl tyX11_ok nmX11 dX11_writePage_12 0 19 (by decide) wf_X11_309 rfl rfl (Nat.le_of_ble_eq_true rfl) rfl rfl rfl ?_
    rw [outW_0]
    refine J_iconst (v := 4) hC dX11_writePage_15 rfl ?_
    refine J_iload_n hC dX11_writePage_16 1 rfl rfl ?_
    refine J_imul (v := nI (4 * cl v)) hC dX11_writePage_17 ((pk_mul 4 (cl v)).trans (congrArg nI (by omega))) ?_
    refine J_istore_n hC [(2, .int (nI (4 * cl v))), (0, .ref (m 0)), (1, .int (nI (cl v)))] dX11_writePage_18 rfl (by decide) rfl ?_
    refine J_lv (lv' := [(0, .ref (m 0)), (1, .int (nI (cl v))), (2, .int (nI (4 * cl v)))]) [1, 2, 0] rfl ?_
    exact (key _) (4 * cl v) (M 7, 0) (c_2) (by omega) (Nat.zero_le _) (rfl) (Nat.lt_succ_self _)
  · refine J_if_eq (tgt := 10) hC dX11_writePage_5 (by decide) (fun c => absurd c (by decide)) (fun _ => ?_)
    refine J_iconst (v := 0) hC dX11_writePage_8 rfl ?_
    refine J_iret hC hR dX11_writePage_9 rfl (us M 8 2 1) ?_ ?_ (by decide) (by decide)
    · exact Or.inr (⟨c_2, rfl, rfl⟩)
    · rfl

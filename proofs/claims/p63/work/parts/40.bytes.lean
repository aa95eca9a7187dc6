/-! BYTES of the class: a row and its length, as a pair -/
def byQ (G : gT) (b : Nat → Nat) (q : RT × Nat) : va_W := [(b 0, .inr (1, [.ref (b 1), .int (nI q.2)])), (b 1, .inl (gc G 1, 600, .inl q.1))]
def iush (a b : Int32) : Int32 := (a.toUInt32 >>> (b.toUInt32 &&& Int32.toUInt32 31)).toInt32
def b_four (w : Int32) (q : RT × Nat) : RT × Nat := w_put (iush w 0) (w_put (iush w 8) (w_put (iush w 16) (w_put (iush w 24) q)))
def b_l1 (z sh : Int32) (q : RT × Nat) : RT × Nat := if iush z sh &&& 255 = 0 then q else w_put (iush z sh &&& 255) q
def b_nam (z : Int32) (q : RT × Nat) : RT × Nat := b_l1 z 0 (b_l1 z 8 (b_l1 z 16 (b_l1 z 24 q)))
def b_d1 (x u : Nat) (q : RT × Nat) : RT × Nat := if u ≤ x ∨ u = 1 then w_put (nI (48 + x / u % 10)) q else q
def b_dec (x : Nat) (q : RT × Nat) : RT × Nat := b_d1 x 1 (b_d1 x 10 (b_d1 x 100 (b_d1 x 1000 (b_d1 x 10000 (b_d1 x 100000 (b_d1 x 1000000 (b_d1 x 10000000 (b_d1 x 100000000 (b_d1 x 1000000000 q)))))))))
theorem b_dec_eq (x : Nat) (q : RT × Nat) : b_dec x q = w_dec x q := rfl
theorem b_l1_le (z sh : Int32) (q : RT × Nat) : (b_l1 z sh q).2 ≤ q.2 + 1 := by
  unfold b_l1; split <;> simp [w_put]
theorem b_d1_le (x u : Nat) (q : RT × Nat) : (b_d1 x u q).2 ≤ q.2 + 1 := by
  unfold b_d1; split <;> simp [w_put]
def b_nmL (f : RT) (il : Nat) : Nat → Nat → Int32 → Int32
  | _, 0, acc => acc
  | i, k + 1, acc => if q_let (q_at f il i) then b_nmL f il (i + 1) k ((acc <<< (8 &&& 31)) ||| q_at f il i) else 0
def b_nm (f : RT) (il s e : Nat) : Int32 := if e - s ≤ 4 then b_nmL f il s (e - s) 0 else 0

set_option maxRecDepth 100000 in
set_option maxHeartbeats 4000000 in
theorem c_X1_put (l : Launch) (G : gT) (b : Nat → Nat) (q : RT × Nat) (v : Int32) (hq : q.2 < 600) : MV l yX1_put cX1_put 2 { frames := 0, cells := 0, slots := 0, locals := 0 } [.ref (b 0), .int v] G (byQ G b q) (fun (_ : Unit) => True) (fun _ => byQ G b (w_put v q)) := by
  refine jm_v (own := RX1) (by decide) rfl (Nat.le_of_ble_eq_true rfl) (fun x hl hC hR hN => ?_)
  subst hl
  refine J_aload_n hC dX1_put_0 0 rfl rfl ?_
  refine J_get (v := .int (nI q.2)) hC wu_X1 rfl dX1_put_1 0 1 (by decide) wf_X1_15 rfl rfl ?_
  refine J_sipush (v := 600) hC dX1_put_4 (by decide +kernel) ?_
  refine J_ic_ltN (a := q.2) (b := 600) (tgt := 11) hC dX1_put_7 (by decide) (by omega) (by omega) (fun (c_7 : q.2 < 600) => ?_) (fun (c_7 : 600 ≤ q.2) => ?_)
  · refine J_aload_n hC dX1_put_11 0 rfl rfl ?_
    refine J_get (v := .ref (b 1)) hC wu_X1 rfl dX1_put_12 0 0 (by decide) wf_X1_11 rfl rfl ?_
    refine J_aload_n hC dX1_put_15 0 rfl rfl ?_
    refine J_get (v := .int (nI q.2)) hC wu_X1 rfl dX1_put_16 0 1 (by decide) wf_X1_15 rfl rfl ?_
    refine J_iload_n hC dX1_put_19 1 rfl rfl ?_
    refine J_i2b (v := v.toInt8.toInt32) hC dX1_put_20 rfl ?_
    refine J_bast (i := q.2) (ws' := byQ G b (upd q.1 q.2 (vp_nar .byte v.toInt8.toInt32), q.2)) hC dX1_put_21 1 rfl (by omega) (by decide) rfl ?_
    refine J_aload_n hC dX1_put_22 0 rfl rfl ?_
    refine J_dup hC dX1_put_23 rfl ?_
    refine J_get (v := .int (nI q.2)) hC wu_X1 rfl dX1_put_24 0 1 (by decide) wf_X1_15 rfl rfl ?_
    refine J_iconst (v := 1) hC dX1_put_27 rfl ?_
    refine J_iadd (v := nI (1 + q.2)) hC dX1_put_28 ((nI_add q.2 1).trans (congrArg nI (by omega))) ?_
    refine J_put (ws' := byQ G b (upd q.1 q.2 (vp_nar .byte v.toInt8.toInt32), 1 + q.2)) hC wu_X1 rfl tyX1_ok nmX1 dX1_put_29 0 1 (by decide) wf_X1_15 rfl rfl (Nat.le_of_ble_eq_true rfl) rfl rfl rfl ?_
    refine J_vret hC hR dX1_put_32 () ?_ ?_ (by decide) (by decide)
    · trivial
    · exact congrArg (byQ G b) (by rw [w_put, Nat.add_comm 1 q.2]; rfl)
  · exfalso; omega

set_option maxRecDepth 100000 in
set_option maxHeartbeats 4000000 in
theorem c_X1_putFour (l : Launch) (G : gT) (b : Nat → Nat) (q : RT × Nat) (w : Int32) (hq : q.2 ≤ 596) : MV l yX1_putFour cX1_putFour 3 { frames := 1, cells := 0, slots := 0, locals := 21 } [.ref (b 0), .int w] G (byQ G b q) (fun (_ : Unit) => True) (fun _ => byQ G b (b_four w q)) := by
  refine jm_v (own := RX1) (by decide) rfl (Nat.le_of_ble_eq_true rfl) (fun x hl hC hR hN => ?_)
  subst hl
  refine J_bipush (v := 24) hC dX1_putFour_0 (by decide +kernel) ?_
  refine J_istore_n hC [(2, .int 24), (0, .ref (b 0)), (1, .int w)] dX1_putFour_2 rfl (by decide) rfl ?_
  refine J_iload_n hC dX1_putFour_3 0 rfl rfl ?_
  refine J_if_lt (tgt := 20) hC dX1_putFour_4 (by decide) (fun c => absurd c (by decide)) (fun _ => ?_)
  refine J_aload_n hC dX1_putFour_7 1 rfl rfl ?_
  refine J_iload_n hC dX1_putFour_8 2 rfl rfl ?_
  refine J_iload_n hC dX1_putFour_9 0 rfl rfl ?_
  refine J_iushr (v := iush w 24) hC dX1_putFour_10 rfl ?_
  refine J_callVv hC dX1_putFour_11 wl_X1_19 yi_X1_put (c_X1_put _ G b q (iush w 24) (by omega)) rfl rfl 0 1 rfl rfl ⟨Nat.le_of_ble_eq_true rfl, Nat.le_of_ble_eq_true rfl⟩ (Nat.le_of_ble_eq_true rfl) (Nat.le_of_ble_eq_true rfl) (Nat.le_of_ble_eq_true rfl) (fun _ _ => ?_)
  obtain ⟨q1, dq1⟩ : ∃ z9, z9 = w_put (iush w 24) q := ⟨_, rfl⟩
  have lq1 : q1.2 = q.2 + 1 := by rw [dq1]; exact rfl
  refine J_wq (congrArg (byQ G b) dq1.symm) ?_
  refine J_iinc hC [(2, .int 16), (0, .ref (b 0)), (1, .int w)] dX1_putFour_14 0 rfl (by decide +kernel) (by decide) rfl ?_
  refine J_goto (tgt := 3) hC dX1_putFour_17 (by decide) ?_
  refine J_iload_n hC dX1_putFour_3 0 rfl rfl ?_
  refine J_if_lt (tgt := 20) hC dX1_putFour_4 (by decide) (fun c => absurd c (by decide)) (fun _ => ?_)
  refine J_aload_n hC dX1_putFour_7 1 rfl rfl ?_
  refine J_iload_n hC dX1_putFour_8 2 rfl rfl ?_
  refine J_iload_n hC dX1_putFour_9 0 rfl rfl ?_
  refine J_iushr (v := iush w 16) hC dX1_putFour_10 rfl ?_
  refine J_callVv hC dX1_putFour_11 wl_X1_19 yi_X1_put (c_X1_put _ G b q1 (iush w 16) (by omega)) rfl rfl 0 1 rfl rfl ⟨Nat.le_of_ble_eq_true rfl, Nat.le_of_ble_eq_true rfl⟩ (Nat.le_of_ble_eq_true rfl) (Nat.le_of_ble_eq_true rfl) (Nat.le_of_ble_eq_true rfl) (fun _ _ => ?_)
  obtain ⟨q2, dq2⟩ : ∃ z9, z9 = w_put (iush w 16) q1 := ⟨_, rfl⟩
  have lq2 : q2.2 = q1.2 + 1 := by rw [dq2]; exact rfl
  refine J_wq (congrArg (byQ G b) dq2.symm) ?_
  refine J_iinc hC [(2, .int 8), (0, .ref (b 0)), (1, .int w)] dX1_putFour_14 0 rfl (by decide +kernel) (by decide) rfl ?_
  refine J_goto (tgt := 3) hC dX1_putFour_17 (by decide) ?_
  refine J_iload_n hC dX1_putFour_3 0 rfl rfl ?_
  refine J_if_lt (tgt := 20) hC dX1_putFour_4 (by decide) (fun c => absurd c (by decide)) (fun _ => ?_)
  refine J_aload_n hC dX1_putFour_7 1 rfl rfl ?_
  refine J_iload_n hC dX1_putFour_8 2 rfl rfl ?_
  refine J_iload_n hC dX1_putFour_9 0 rfl rfl ?_
  refine J_iushr (v := iush w 8) hC dX1_putFour_10 rfl ?_
  refine J_callVv hC dX1_putFour_11 wl_X1_19 yi_X1_put (c_X1_put _ G b q2 (iush w 8) (by omega)) rfl rfl 0 1 rfl rfl ⟨Nat.le_of_ble_eq_true rfl, Nat.le_of_ble_eq_true rfl⟩ (Nat.le_of_ble_eq_true rfl) (Nat.le_of_ble_eq_true rfl) (Nat.le_of_ble_eq_true rfl) (fun _ _ => ?_)
  obtain ⟨q3, dq3⟩ : ∃ z9, z9 = w_put (iush w 8) q2 := ⟨_, rfl⟩
  have lq3 : q3.2 = q2.2 + 1 := by rw [dq3]; exact rfl
  refine J_wq (congrArg (byQ G b) dq3.symm) ?_
  refine J_iinc hC [(2, .int 0), (0, .ref (b 0)), (1, .int w)] dX1_putFour_14 0 rfl (by decide +kernel) (by decide) rfl ?_
  refine J_goto (tgt := 3) hC dX1_putFour_17 (by decide) ?_
  refine J_iload_n hC dX1_putFour_3 0 rfl rfl ?_
  refine J_if_lt (tgt := 20) hC dX1_putFour_4 (by decide) (fun c => absurd c (by decide)) (fun _ => ?_)
  refine J_aload_n hC dX1_putFour_7 1 rfl rfl ?_
  refine J_iload_n hC dX1_putFour_8 2 rfl rfl ?_
  refine J_iload_n hC dX1_putFour_9 0 rfl rfl ?_
  refine J_iushr (v := iush w 0) hC dX1_putFour_10 rfl ?_
  refine J_callVv hC dX1_putFour_11 wl_X1_19 yi_X1_put (c_X1_put _ G b q3 (iush w 0) (by omega)) rfl rfl 0 1 rfl rfl ⟨Nat.le_of_ble_eq_true rfl, Nat.le_of_ble_eq_true rfl⟩ (Nat.le_of_ble_eq_true rfl) (Nat.le_of_ble_eq_true rfl) (Nat.le_of_ble_eq_true rfl) (fun _ _ => ?_)
  obtain ⟨q4, dq4⟩ : ∃ z9, z9 = w_put (iush w 0) q3 := ⟨_, rfl⟩
  have lq4 : q4.2 = q3.2 + 1 := by rw [dq4]; exact rfl
  refine J_wq (congrArg (byQ G b) dq4.symm) ?_
  refine J_iinc hC [(2, .int (-8)), (0, .ref (b 0)), (1, .int w)] dX1_putFour_14 0 rfl (by decide +kernel) (by decide) rfl ?_
  refine J_goto (tgt := 3) hC dX1_putFour_17 (by decide) ?_
  refine J_iload_n hC dX1_putFour_3 0 rfl rfl ?_
  refine J_if_lt (tgt := 20) hC dX1_putFour_4 (by decide) (fun _ => ?_) (fun c => absurd (by decide) c)
  refine J_vret hC hR dX1_putFour_20 () ?_ ?_ (by decide) (by decide)
  · trivial
  · exact congrArg (byQ G b) (by rw [dq4, dq3, dq2, dq1]; try rfl)

set_option maxRecDepth 100000 in
set_option maxHeartbeats 4000000 in
theorem c_X1_hasRoomFor (l : Launch) (G : gT) (b : Nat → Nat) (q : RT × Nat) (w : Nat) (hq : q.2 ≤ 600) (hw : w ≤ 600) : MI l yX1_hasRoomFor cX1_hasRoomFor 2 (some .boolean) { frames := 0, cells := 0, slots := 0, locals := 0 } [.ref (b 0), .int (nI w)] G (byQ G b q) (fun r (_ : Unit) => (r = 1 ∧ q.2 + w ≤ 600) ∨ (r = 0 ∧ ¬ (q.2 + w ≤ 600))) (fun _ => byQ G b q) := by
  refine jm_i (own := RX1) (by decide) rfl (Nat.le_of_ble_eq_true rfl) (fun x hl hC hR hN => ?_)
  subst hl
  refine J_aload_n hC dX1_hasRoomFor_0 0 rfl rfl ?_
  refine J_get (v := .int (nI q.2)) hC wu_X1 rfl dX1_hasRoomFor_1 0 1 (by decide) wf_X1_15 rfl rfl ?_
  refine J_iload_n hC dX1_hasRoomFor_4 1 rfl rfl ?_
  refine J_iadd (v := nI (q.2 + w)) hC dX1_hasRoomFor_5 (nI_add q.2 w) ?_
  refine J_sipush (v := 600) hC dX1_hasRoomFor_6 (by decide +kernel) ?_
  refine J_ic_gtN (a := q.2 + w) (b := 600) (tgt := 16) hC dX1_hasRoomFor_9 (by decide) (by omega) (by omega) (fun (c_9 : 600 < (q.2 + w)) => ?_) (fun (c_9 : (q.2 + w) ≤ 600) => ?_)
  · refine J_iconst (v := 0) hC dX1_hasRoomFor_16 rfl ?_
    refine J_iret hC hR dX1_hasRoomFor_17 rfl () ?_ ?_ (by decide) (by decide)
    · exact Or.inr ⟨rfl, by omega⟩
    · rfl
  · refine J_iconst (v := 1) hC dX1_hasRoomFor_12 rfl ?_
    refine J_goto (tgt := 17) hC dX1_hasRoomFor_13 (by decide) ?_
    refine J_iret hC hR dX1_hasRoomFor_17 rfl () ?_ ?_ (by decide) (by decide)
    · exact Or.inl ⟨rfl, by omega⟩
    · rfl

set_option maxRecDepth 100000 in
set_option maxHeartbeats 4000000 in
theorem c_X1_at (l : Launch) (G : gT) (b : Nat → Nat) (q : RT × Nat) (f : RT) (i : Nat) (hf : ∀ j, j < q.2 → q.1 j &&& 255 = f j) (hq : q.2 ≤ 600) (hi : i ≤ 600) : MI l yX1_at cX1_at 2 (some .int) { frames := 0, cells := 0, slots := 0, locals := 0 } [.ref (b 0), .int (nI i)] G (byQ G b q) (fun r (_ : Unit) => r = q_at f q.2 i) (fun _ => byQ G b q) := by
  refine jm_i (own := RX1) (by decide) rfl (Nat.le_of_ble_eq_true rfl) (fun x hl hC hR hN => ?_)
  subst hl
  refine J_iload_n hC dX1_at_0 1 rfl rfl ?_
  refine J_if_ltN (a := i) (tgt := 25) hC dX1_at_1 (by decide) (by omega) ?_
  refine J_iload_n hC dX1_at_4 1 rfl rfl ?_
  refine J_aload_n hC dX1_at_5 0 rfl rfl ?_
  refine J_get (v := .int (nI q.2)) hC wu_X1 rfl dX1_at_6 0 1 (by decide) wf_X1_15 rfl rfl ?_
  refine J_ic_geN (a := i) (b := q.2) (tgt := 25) hC dX1_at_9 (by decide) (by omega) (by omega) (fun (c_9 : q.2 ≤ i) => ?_) (fun (c_9 : i < q.2) => ?_)
  · refine J_iconst (v := (-1)) hC dX1_at_25 rfl ?_
    refine J_iret hC hR dX1_at_26 rfl () ?_ ?_ (by decide) (by decide)
    · rw [q_at, if_neg (by omega)]
    · rfl
  · refine J_aload_n hC dX1_at_12 0 rfl rfl ?_
    refine J_get (v := .ref (b 1)) hC wu_X1 rfl dX1_at_13 0 0 (by decide) wf_X1_11 rfl rfl ?_
    refine J_iload_n hC dX1_at_16 1 rfl rfl ?_
    refine J_bald (i := i) (v := q.1 i) hC dX1_at_17 1 rfl (by omega) (by decide) rfl ?_
    refine J_sipush (v := 255) hC dX1_at_18 (by decide +kernel) ?_
    refine J_iand (v := (q.1 i) &&& 255) hC dX1_at_21 rfl ?_
    refine J_goto (tgt := 26) hC dX1_at_22 (by decide) ?_
    refine J_iret hC hR dX1_at_26 rfl () ?_ ?_ (by decide) (by decide)
    · rw [q_at, if_pos (by omega)]; exact hf i (by omega)
    · rfl

theorem b_nmL_go {f : RT} {il i e : Nat} {acc : Int32} (h : i < e) (c : q_let (q_at f il i)) : b_nmL f il i (e - i) acc = b_nmL f il (i + 1) (e - (i + 1)) ((acc <<< (8 &&& 31)) ||| q_at f il i) := by
  obtain ⟨k, hk⟩ : ∃ k, e - i = k + 1 := ⟨e - i - 1, by omega⟩
  rw [hk, b_nmL, if_pos c, show e - (i + 1) = k by omega]
theorem b_nmL_no {f : RT} {il i e : Nat} {acc : Int32} (h : i < e) (c : ¬ q_let (q_at f il i)) : b_nmL f il i (e - i) acc = 0 := by
  obtain ⟨k, hk⟩ : ∃ k, e - i = k + 1 := ⟨e - i - 1, by omega⟩
  rw [hk, b_nmL, if_neg c]

set_option maxRecDepth 100000 in
set_option maxHeartbeats 4000000 in
theorem c_X1_nameBetween (l : Launch) (G : gT) (b : Nat → Nat) (q : RT × Nat) (f : RT) (s : Nat) (e : Nat) (hf : ∀ j, j < q.2 → q.1 j &&& 255 = f j) (hq : q.2 ≤ 600) (hse : s ≤ e) (he : e ≤ 600) : MI l yX1_nameBetween cX1_nameBetween 6 (some .int) { frames := 1, cells := 0, slots := 0, locals := 21 } [.ref (b 0), .int (nI s), .int (nI e)] G (byQ G b q) (fun r (_ : Unit) => r = b_nm f q.2 s e) (fun _ => byQ G b q) := by
  refine jm_i (own := RX1) (by decide) rfl (Nat.le_of_ble_eq_true rfl) (fun x hl hC hR hN => ?_)
  subst hl
  have key : ∀ fuel : Nat, (∀ (i : Nat) (acc : Int32), (s ≤ i ∧ i ≤ e) → (e - s ≤ 4) → (b_nm f q.2 s e = b_nmL f q.2 i (e - i) acc) → e - i < fuel → J x G (byQ G b q) 0 0 [(0, .ref (b 0)), (1, .int (nI s)), (2, .int (nI e)), (3, .int acc), (4, .int (nI i))] [] 14) := by
    intro fuel
    induction fuel with
    | zero => exact fun _ _ _ _ _ h => absurd h (Nat.not_lt_zero _)
    | succ fuel ih =>
      intro i acc hi h4 hI hmu
      refine J_iload hC dX1_nameBetween_14 4 rfl ?_
      refine J_iload_n hC dX1_nameBetween_16 2 rfl rfl ?_
      refine J_ic_geN (a := i) (b := e) (tgt := 52) hC dX1_nameBetween_17 (by decide) (by omega) (by omega) (fun (c_17 : e ≤ i) => ?_) (fun (c_17 : i < e) => ?_)
      · refine J_iload_n hC dX1_nameBetween_52 3 rfl rfl ?_
        refine J_iret hC hR dX1_nameBetween_53 rfl () ?_ ?_ (by decide) (by decide)
        · rw [hI, show e - i = 0 by omega, b_nmL]
        · rfl
      · refine J_aload_n hC dX1_nameBetween_20 0 rfl rfl ?_
        refine J_iload hC dX1_nameBetween_21 4 rfl ?_
        refine J_callVi hC dX1_nameBetween_23 wl_X1_33 yi_X1_at (c_X1_at _ G b q f i hf (by omega) (by omega)) rfl rfl 0 1 rfl rfl ⟨Nat.le_of_ble_eq_true rfl, Nat.le_of_ble_eq_true rfl⟩ (Nat.le_of_ble_eq_true rfl) (Nat.le_of_ble_eq_true rfl) (Nat.le_of_ble_eq_true rfl) (fun r u h_23 => ?_)
        subst h_23
        refine J_istore hC [(5, .int (q_at f q.2 i)), (0, .ref (b 0)), (1, .int (nI s)), (2, .int (nI e)), (3, .int acc), (4, .int (nI i))] dX1_nameBetween_26 (by decide) rfl ?_
        refine J_iload hC dX1_nameBetween_28 0 rfl ?_
        refine J_callSNi hC dX1_nameBetween_30 wln_X1_37 yi_X10_isLetter (c_X10_isLetter _ G (byQ G b q) (q_at f q.2 i)) rfl rfl ⟨Nat.le_of_ble_eq_true rfl, Nat.le_of_ble_eq_true rfl⟩ (Nat.le_of_ble_eq_true rfl) (Nat.le_of_ble_eq_true rfl) (Nat.le_of_ble_eq_true rfl) (fun r u h_30 => ?_)
        rcases h_30 with ⟨rfl, c_30⟩ | ⟨rfl, c_30⟩
        · refine J_if_ne (tgt := 38) hC dX1_nameBetween_33 (by decide) (fun _ => ?_) (fun c => absurd c (by decide))
          refine J_iload_n hC dX1_nameBetween_38 4 rfl rfl ?_
          refine J_bipush (v := 8) hC dX1_nameBetween_39 (by decide +kernel) ?_
          refine J_ishl (v := acc <<< (8 &&& 31)) hC dX1_nameBetween_41 rfl ?_
          refine J_iload hC dX1_nameBetween_42 0 rfl ?_
          refine J_ior (v := (acc <<< (8 &&& 31)) ||| (q_at f q.2 i)) hC dX1_nameBetween_44 rfl ?_
          refine J_istore_n hC [(3, .int ((acc <<< (8 &&& 31)) ||| (q_at f q.2 i))), (5, .int (q_at f q.2 i)), (0, .ref (b 0)), (1, .int (nI s)), (2, .int (nI e)), (4, .int (nI i))] dX1_nameBetween_45 rfl (by decide) rfl ?_
          refine J_iinc hC [(4, .int (nI (i + 1))), (3, .int ((acc <<< (8 &&& 31)) ||| (q_at f q.2 i))), (5, .int (q_at f q.2 i)), (0, .ref (b 0)), (1, .int (nI s)), (2, .int (nI e))] dX1_nameBetween_46 5 rfl (nI_inc _) (by decide) rfl ?_
          refine J_goto (tgt := 14) hC dX1_nameBetween_49 (by decide) ?_
          refine J_lv (lv' := [(0, .ref (b 0)), (1, .int (nI s)), (2, .int (nI e)), (3, .int ((acc <<< (8 &&& 31)) ||| (q_at f q.2 i))), (4, .int (nI (i + 1)))]) [3, 4, 5, 1, 0] rfl ?_
          exact ih (i + 1) ((acc <<< (8 &&& 31)) ||| (q_at f q.2 i)) (by omega) (h4) (by rw [hI, b_nmL_go c_17 c_30]) (by omega)
        · refine J_if_ne (tgt := 38) hC dX1_nameBetween_33 (by decide) (fun c => absurd (by decide) c) (fun _ => ?_)
          refine J_iconst (v := 0) hC dX1_nameBetween_36 rfl ?_
          refine J_iret hC hR dX1_nameBetween_37 rfl () ?_ ?_ (by decide) (by decide)
          · rw [hI, b_nmL_no c_17 c_30]
          · rfl
  refine J_iload_n hC dX1_nameBetween_0 2 rfl rfl ?_
  refine J_iload_n hC dX1_nameBetween_1 1 rfl rfl ?_
  refine J_isub (v := nI (e - s)) hC dX1_nameBetween_2 (pk_sub (a := e) (b := s) (by omega)) ?_
  refine J_iconst (v := 4) hC dX1_nameBetween_3 rfl ?_
  refine J_ic_leN (a := e - s) (b := 4) (tgt := 9) hC dX1_nameBetween_4 (by decide) (by omega) (by omega) (fun (c_4 : (e - s) ≤ 4) => ?_) (fun (c_4 : 4 < (e - s)) => ?_)
  · refine J_iconst (v := 0) hC dX1_nameBetween_9 rfl ?_
    refine J_istore_n hC [(3, .int 0), (0, .ref (b 0)), (1, .int (nI s)), (2, .int (nI e))] dX1_nameBetween_10 rfl (by decide) rfl ?_
    refine J_iload_n hC dX1_nameBetween_11 2 rfl rfl ?_
    refine J_istore hC [(4, .int (nI s)), (3, .int 0), (0, .ref (b 0)), (1, .int (nI s)), (2, .int (nI e))] dX1_nameBetween_12 (by decide) rfl ?_
    refine J_lv (lv' := [(0, .ref (b 0)), (1, .int (nI s)), (2, .int (nI e)), (3, .int 0), (4, .int (nI s))]) [2, 3, 4, 1, 0] rfl ?_
    exact (key _) s 0 (by omega) (by omega) (by rw [b_nm, if_pos (by omega)]) (Nat.lt_succ_self _)
  · refine J_iconst (v := 0) hC dX1_nameBetween_7 rfl ?_
    refine J_iret hC hR dX1_nameBetween_8 rfl () ?_ ?_ (by decide) (by decide)
    · rw [b_nm, if_neg (by omega)]
    · rfl

theorem b_nam_le (z : Int32) (q : RT × Nat) : (b_nam z q).2 ≤ q.2 + 4 := by
  have h1 := b_l1_le z 24 q
  have h2 := b_l1_le z 16 (b_l1 z 24 q)
  have h3 := b_l1_le z 8 (b_l1 z 16 (b_l1 z 24 q))
  have h4 := b_l1_le z 0 (b_l1 z 8 (b_l1 z 16 (b_l1 z 24 q)))
  unfold b_nam
  omega

def b_txt : Nat → Nat → RT × Nat → RT × Nat
  | _, 0, q => q
  | i, k + 1, q => b_txt (i + 1) k (w_put (sk_ch 0 i) q)
theorem b_txt_go {i n : Nat} {q : RT × Nat} (h : i < n) : b_txt i (n - i) q = b_txt (i + 1) (n - (i + 1)) (w_put (sk_ch 0 i) q) := by
  obtain ⟨k, hk⟩ : ∃ k, n - i = k + 1 := ⟨n - i - 1, by omega⟩
  rw [hk, show n - (i + 1) = k by omega]; rfl

set_option maxRecDepth 100000 in
set_option maxHeartbeats 4000000 in
theorem c_X1_putText (l : Launch) (G : gT) (b : Nat → Nat) (q : RT × Nat) (hq : q.2 = 0) : MV l yX1_putText cX1_putText 3 { frames := 4, cells := 0, slots := 0, locals := 85 } [.ref (b 0), .ref (G.2.2.1 0)] G (byQ G b q) (fun (_ : Unit) => True) (fun _ => byQ G b (b_txt 0 182 q)) := by
  refine jm_v (own := RX1) (by decide) rfl (Nat.le_of_ble_eq_true rfl) (fun x hl hC hR hN => ?_)
  subst hl
  have key : ∀ fuel : Nat, (∀ (i : Nat) (r : RT × Nat), (i ≤ 182) → (r.2 = i) → (b_txt 0 182 q = b_txt i (182 - i) r) → 182 - i < fuel → J x G (byQ G b r) 0 0 [(0, .ref (b 0)), (1, .ref (G.2.2.1 0)), (2, .int (nI i))] [] 2) := by
    intro fuel
    induction fuel with
    | zero => exact fun _ _ _ _ _ h => absurd h (Nat.not_lt_zero _)
    | succ fuel ih =>
      intro i r hi hr hI hmu
      refine J_iload_n hC dX1_putText_2 2 rfl rfl ?_
      refine J_aload_n hC dX1_putText_3 1 rfl rfl ?_
      refine J_callVis (i := 0) hC dX1_putText_4 wl_X1_23 yi_J0_length_8abf5 (c_J0_length_8abf5 _ G (byQ G b r) 0 (by decide)) rfl rfl (by decide) ⟨Nat.le_of_ble_eq_true rfl, Nat.le_of_ble_eq_true rfl⟩ (Nat.le_of_ble_eq_true rfl) (Nat.le_of_ble_eq_true rfl) (Nat.le_of_ble_eq_true rfl) (fun r u h_4 => ?_)
      subst h_4
      refine J_topi (show nI (SKn.getD 0 0) = 182 from by decide) ?_
      refine J_ic_geN (a := i) (b := 182) (tgt := 25) hC dX1_putText_7 (by decide) (by omega) (by omega) (fun (c_7 : 182 ≤ i) => ?_) (fun (c_7 : i < 182) => ?_)
      · refine J_vret hC hR dX1_putText_25 () ?_ ?_ (by decide) (by decide)
        · trivial
        · exact congrArg (byQ G b) (by rw [hI, show 182 - i = 0 by omega]; rfl)
      · refine J_aload_n hC dX1_putText_10 0 rfl rfl ?_
        refine J_aload_n hC dX1_putText_11 1 rfl rfl ?_
        refine J_iload_n hC dX1_putText_12 2 rfl rfl ?_
        refine J_callVis (i := 0) hC dX1_putText_13 wl_X1_28 yi_J0_charAt_5068e (c_J0_charAt_5068e _ G (byQ G b r) 0 i (by decide) (show i < SKn.getD 0 0 from by show i < 182; omega)) rfl rfl (by decide) ⟨Nat.le_of_ble_eq_true rfl, Nat.le_of_ble_eq_true rfl⟩ (Nat.le_of_ble_eq_true rfl) (Nat.le_of_ble_eq_true rfl) (Nat.le_of_ble_eq_true rfl) (fun r u h_13 => ?_)
        subst h_13
        refine J_callVv hC dX1_putText_16 wl_X1_19 yi_X1_put (c_X1_put _ G b r (sk_ch 0 i) (by omega)) rfl rfl 0 1 rfl rfl ⟨Nat.le_of_ble_eq_true rfl, Nat.le_of_ble_eq_true rfl⟩ (Nat.le_of_ble_eq_true rfl) (Nat.le_of_ble_eq_true rfl) (Nat.le_of_ble_eq_true rfl) (fun _ _ => ?_)
        obtain ⟨q1, dq1⟩ : ∃ z9, z9 = w_put (sk_ch 0 i) r := ⟨_, rfl⟩
        have lq1 : q1.2 = r.2 + 1 := by rw [dq1]; exact rfl
        refine J_wq (congrArg (byQ G b) dq1.symm) ?_
        refine J_iinc hC [(2, .int (nI (i + 1))), (0, .ref (b 0)), (1, .ref (G.2.2.1 0))] dX1_putText_19 2 rfl (nI_inc _) (by decide) rfl ?_
        refine J_goto (tgt := 2) hC dX1_putText_22 (by decide) ?_
        refine J_lv (lv' := [(0, .ref (b 0)), (1, .ref (G.2.2.1 0)), (2, .int (nI (i + 1)))]) [1, 2, 0] rfl ?_
        exact ih (i + 1) q1 (by omega) (by omega) (by rw [hI, b_txt_go (by omega), dq1]) (by omega)
  refine J_iconst (v := 0) hC dX1_putText_0 rfl ?_
  refine J_istore_n hC [(2, .int 0), (0, .ref (b 0)), (1, .ref (G.2.2.1 0))] dX1_putText_1 rfl (by decide) rfl ?_
  refine J_lv (lv' := [(0, .ref (b 0)), (1, .ref (G.2.2.1 0)), (2, .int 0)]) [1, 2, 0] rfl ?_
  exact (key _) 0 q (by omega) (hq) (rfl) (Nat.lt_succ_self _)


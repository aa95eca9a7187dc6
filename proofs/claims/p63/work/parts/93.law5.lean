/-! THE LAW: says -/
/-- the letter k of the it-th piece of twenty -/
def cfL (a : Nat → Int32) (n it k : Nat) : Int32 := if 20 * it + k < n then a (20 * it + k) else 32
/-- the five numbers after k letters -/
def fvA (c : Nat → Int32) : Nat → Nat → Int32
  | 0 => fun _ => 0
  | k + 1 => upd (fvA c k) (k / 4) (fvA c k (k / 4) <<< ((8 : Int32) &&& 31) ||| c k)
/-- the input after it pieces -/
def qsL (a : Nat → Int32) (n : Nat) (q : RT × Nat) : Nat → RT × Nat
  | 0 => q
  | it + 1 => b_app (fvA (cfL a n it) 20 0) (fvA (cfL a n it) 20 1) (fvA (cfL a n it) 20 2) (fvA (cfL a n it) 20 3) (fvA (cfL a n it) 20 4) (qsL a n q it)
theorem qsL_2 (a : Nat → Int32) (n : Nat) (q : RT × Nat) : ∀ it, (qsL a n q it).2 = q.2 + 20 * it
  | 0 => rfl
  | it + 1 => by
    show (qsL a n q it).2 + 20 = _
    rw [qsL_2 a n q it]
    omega
/-! the input's bytes -/
theorem shl_or {A c : Nat} (hA : A < 2 ^ 23) (hc : c < 256) : (nI A <<< ((8 : Int32) &&& 31)) ||| nI c = nI (A * 256 + c) := by
  have e : ∀ n, (nI n).toBitVec.toNat = n % 2 ^ 32 := fun n => rfl
  apply Int32.toBitVec_inj.mp
  apply BitVec.eq_of_toNat_eq
  rw [e]
  show ((nI A).toBitVec <<< (8 : Nat) ||| (nI c).toBitVec).toNat = _
  rw [BitVec.toNat_or, BitVec.toNat_shiftLeft, e, e, Nat.mod_eq_of_lt (a := A) (by omega), Nat.mod_eq_of_lt (a := c) (by omega), Nat.shiftLeft_eq, Nat.mod_eq_of_lt (by omega), Nat.mod_eq_of_lt (a := A * 256 + c) (by omega)]
  have h := Nat.shiftLeft_add_eq_or_of_lt (b := c) (i := 8) (by omega) A
  rw [Nat.shiftLeft_eq] at h
  omega
theorem iush_nI {a : Nat} (ha : a < 2 ^ 31) : iush (nI a) 24 = nI (a / 2 ^ 24) ∧ iush (nI a) 16 = nI (a / 2 ^ 16) ∧ iush (nI a) 8 = nI (a / 2 ^ 8) ∧ iush (nI a) 0 = nI a := by
  have e : ∀ n, (nI n).toBitVec.toNat = n % 2 ^ 32 := fun n => rfl
  have g : ∀ (s : Int32) (k : Nat), (s.toUInt32 &&& Int32.toUInt32 31).toBitVec.toNat % 32 = k → iush (nI a) s = nI (a / 2 ^ k) := fun s k hk => by
    apply Int32.toBitVec_inj.mp
    apply BitVec.eq_of_toNat_eq
    rw [e]
    show ((nI a).toBitVec >>> ((s.toUInt32 &&& Int32.toUInt32 31).toBitVec.toNat % 32)).toNat = _
    rw [hk, BitVec.toNat_ushiftRight, e, Nat.shiftRight_eq_div_pow, Nat.mod_eq_of_lt (a := a) (by omega), Nat.mod_eq_of_lt]
    exact Nat.lt_of_le_of_lt (Nat.div_le_self _ _) (by omega)
  refine ⟨g 24 24 rfl, g 16 16 rfl, g 8 8 rfl, (g 0 0 rfl).trans ?_⟩
  rw [Nat.pow_zero, Nat.div_one]
theorem i8_mod (m : Nat) : (nI m).toInt8 = (nI (m % 256)).toInt8 := by
  have e : ∀ n, (nI n).toBitVec.toNat = n % 2 ^ 32 := fun n => rfl
  apply Int8.toBitVec_inj.mp
  rw [Int32.toBitVec_toInt8, Int32.toBitVec_toInt8, BitVec.signExtend_eq_setWidth_of_le _ (by decide), BitVec.signExtend_eq_setWidth_of_le _ (by decide)]
  apply BitVec.eq_of_toNat_eq
  rw [BitVec.toNat_setWidth, BitVec.toNat_setWidth, e, e]
  omega
theorem and255_s : ∀ c, c < 128 → nI c &&& 255 = nI c := fun c hc => (by decide +kernel : ∀ i : Fin 128, nI i.1 &&& 255 = nI i.1) ⟨c, hc⟩
theorem wb_c {m c : Nat} (hm : m % 256 = c) (hc : c < 128) : w_b (nI m) &&& 255 = nI c := by
  unfold w_b
  rw [i8_mod, hm, i8_nI hc, nar_nI hc]
  exact and255_s c hc
def pk4 (a b c d : Nat) : Nat := ((a * 256 + b) * 256 + c) * 256 + d
theorem pk4_eq {a b c d : Nat} (ha : a < 128) (hb : b < 128) (hc : c < 128) (hd : d < 128) : ((((((((0 : Int32) <<< ((8 : Int32) &&& 31)) ||| nI a) <<< ((8 : Int32) &&& 31)) ||| nI b) <<< ((8 : Int32) &&& 31)) ||| nI c) <<< ((8 : Int32) &&& 31)) ||| nI d = nI (pk4 a b c d) := by
  have e0 : ((0 : Int32) <<< ((8 : Int32) &&& 31)) ||| nI a = nI a := by
    have h := shl_or (A := 0) (c := a) (by omega) (by omega)
    rw [Nat.zero_mul, Nat.zero_add] at h
    exact h
  rw [e0, shl_or (by omega) (by omega), shl_or (by omega) (by omega), shl_or (by omega) (by omega)]
  rfl
theorem four_keep {w : Int32} {q : RT × Nat} {j : Nat} (h : j < q.2) : (b_four w q).1 j = q.1 j := by
  show upd (upd (upd (upd q.1 q.2 _) (q.2 + 1) _) (q.2 + 1 + 1) _) (q.2 + 1 + 1 + 1) _ j = _
  unfold upd
  rw [if_neg (by omega), if_neg (by omega), if_neg (by omega), if_neg (by omega)]
theorem four_get {a b c d : Nat} {q : RT × Nat} (ha : a < 128) (hb : b < 128) (hc : c < 128) (hd : d < 128) : (b_four (nI (pk4 a b c d)) q).1 q.2 &&& 255 = nI a ∧ (b_four (nI (pk4 a b c d)) q).1 (q.2 + 1) &&& 255 = nI b ∧ (b_four (nI (pk4 a b c d)) q).1 (q.2 + 2) &&& 255 = nI c ∧ (b_four (nI (pk4 a b c d)) q).1 (q.2 + 3) &&& 255 = nI d := by
  have hP : pk4 a b c d < 2 ^ 31 := by unfold pk4; omega
  obtain ⟨s24, s16, s8, s0⟩ := iush_nI hP
  have e : (b_four (nI (pk4 a b c d)) q).1 = upd (upd (upd (upd q.1 q.2 (w_b (nI (pk4 a b c d / 2 ^ 24)))) (q.2 + 1) (w_b (nI (pk4 a b c d / 2 ^ 16)))) (q.2 + 1 + 1) (w_b (nI (pk4 a b c d / 2 ^ 8)))) (q.2 + 1 + 1 + 1) (w_b (nI (pk4 a b c d))) := by
    rw [← s24, ← s16, ← s8]
    show upd (upd (upd (upd q.1 q.2 _) (q.2 + 1) _) (q.2 + 1 + 1) _) (q.2 + 1 + 1 + 1) (w_b (iush (nI (pk4 a b c d)) 0)) = _
    rw [s0]
  rw [e]
  unfold upd
  refine ⟨?_, ?_, ?_, ?_⟩
  · rw [if_neg (by omega), if_neg (by omega), if_neg (by omega), if_pos rfl]; exact wb_c (by unfold pk4; omega) ha
  · rw [if_neg (by omega), if_neg (by omega), if_pos rfl]; exact wb_c (by unfold pk4; omega) hb
  · rw [if_neg (by omega), if_pos rfl]; exact wb_c (by unfold pk4; omega) hc
  · rw [if_pos rfl]; exact wb_c (by unfold pk4; omega) hd
theorem app_get {x : Nat → Nat} (hx : ∀ k, k < 20 → x k < 128) (q : RT × Nat) : (∀ j, j < q.2 → (b_app (nI (pk4 (x 0) (x 1) (x 2) (x 3))) (nI (pk4 (x 4) (x 5) (x 6) (x 7))) (nI (pk4 (x 8) (x 9) (x 10) (x 11))) (nI (pk4 (x 12) (x 13) (x 14) (x 15))) (nI (pk4 (x 16) (x 17) (x 18) (x 19))) q).1 j = q.1 j) ∧ ∀ k, k < 20 → (b_app (nI (pk4 (x 0) (x 1) (x 2) (x 3))) (nI (pk4 (x 4) (x 5) (x 6) (x 7))) (nI (pk4 (x 8) (x 9) (x 10) (x 11))) (nI (pk4 (x 12) (x 13) (x 14) (x 15))) (nI (pk4 (x 16) (x 17) (x 18) (x 19))) q).1 (q.2 + k) &&& 255 = nI (x k) := by
  obtain ⟨q1, h1⟩ : ∃ q1, q1 = b_four (nI (pk4 (x 0) (x 1) (x 2) (x 3))) q := ⟨_, rfl⟩
  obtain ⟨q2, h2⟩ : ∃ q2, q2 = b_four (nI (pk4 (x 4) (x 5) (x 6) (x 7))) q1 := ⟨_, rfl⟩
  obtain ⟨q3, h3⟩ : ∃ q3, q3 = b_four (nI (pk4 (x 8) (x 9) (x 10) (x 11))) q2 := ⟨_, rfl⟩
  obtain ⟨q4, h4⟩ : ∃ q4, q4 = b_four (nI (pk4 (x 12) (x 13) (x 14) (x 15))) q3 := ⟨_, rfl⟩
  obtain ⟨q5, h5⟩ : ∃ q5, q5 = b_four (nI (pk4 (x 16) (x 17) (x 18) (x 19))) q4 := ⟨_, rfl⟩
  have e1 : q1.2 = q.2 + 4 := by rw [h1]; rfl
  have e2 : q2.2 = q.2 + 8 := by rw [h2]; show q1.2 + 4 = _; omega
  have e3 : q3.2 = q.2 + 12 := by rw [h3]; show q2.2 + 4 = _; omega
  have e4 : q4.2 = q.2 + 16 := by rw [h4]; show q3.2 + 4 = _; omega
  have k1 : ∀ j, j < q.2 → q1.1 j = q.1 j := fun j hj => by rw [h1]; exact four_keep hj
  have k2 : ∀ j, j < q.2 + 4 → q2.1 j = q1.1 j := fun j hj => by rw [h2]; exact four_keep (by omega)
  have k3 : ∀ j, j < q.2 + 8 → q3.1 j = q2.1 j := fun j hj => by rw [h3]; exact four_keep (by omega)
  have k4 : ∀ j, j < q.2 + 12 → q4.1 j = q3.1 j := fun j hj => by rw [h4]; exact four_keep (by omega)
  have k5 : ∀ j, j < q.2 + 16 → q5.1 j = q4.1 j := fun j hj => by rw [h5]; exact four_keep (by omega)
  have g1 := four_get (q := q) (hx 0 (by decide)) (hx 1 (by decide)) (hx 2 (by decide)) (hx 3 (by decide))
  have g2 := four_get (q := q1) (hx 4 (by decide)) (hx 5 (by decide)) (hx 6 (by decide)) (hx 7 (by decide))
  have g3 := four_get (q := q2) (hx 8 (by decide)) (hx 9 (by decide)) (hx 10 (by decide)) (hx 11 (by decide))
  have g4 := four_get (q := q3) (hx 12 (by decide)) (hx 13 (by decide)) (hx 14 (by decide)) (hx 15 (by decide))
  have g5 := four_get (q := q4) (hx 16 (by decide)) (hx 17 (by decide)) (hx 18 (by decide)) (hx 19 (by decide))
  rw [← h1] at g1
  rw [← h2, e1] at g2
  rw [← h3, e2] at g3
  rw [← h4, e3] at g4
  rw [← h5, e4] at g5
  have eb : b_app (nI (pk4 (x 0) (x 1) (x 2) (x 3))) (nI (pk4 (x 4) (x 5) (x 6) (x 7))) (nI (pk4 (x 8) (x 9) (x 10) (x 11))) (nI (pk4 (x 12) (x 13) (x 14) (x 15))) (nI (pk4 (x 16) (x 17) (x 18) (x 19))) q = q5 := by rw [h5, h4, h3, h2, h1]; rfl
  rw [eb]
  refine ⟨fun j hj => by rw [k5 j (by omega), k4 j (by omega), k3 j (by omega), k2 j (by omega), k1 j hj], fun k hk => ?_⟩
  have hk' : k = 0 ∨ k = 1 ∨ k = 2 ∨ k = 3 ∨ k = 4 ∨ k = 5 ∨ k = 6 ∨ k = 7 ∨ k = 8 ∨ k = 9 ∨ k = 10 ∨ k = 11 ∨ k = 12 ∨ k = 13 ∨ k = 14 ∨ k = 15 ∨ k = 16 ∨ k = 17 ∨ k = 18 ∨ k = 19 := by omega
  rcases hk' with rfl | rfl | rfl | rfl | rfl | rfl | rfl | rfl | rfl | rfl | rfl | rfl | rfl | rfl | rfl | rfl | rfl | rfl | rfl | rfl
  · rw [k5 _ (by omega), k4 _ (by omega), k3 _ (by omega), k2 _ (by omega)]; exact g1.1
  · rw [k5 _ (by omega), k4 _ (by omega), k3 _ (by omega), k2 _ (by omega)]; exact g1.2.1
  · rw [k5 _ (by omega), k4 _ (by omega), k3 _ (by omega), k2 _ (by omega)]; exact g1.2.2.1
  · rw [k5 _ (by omega), k4 _ (by omega), k3 _ (by omega), k2 _ (by omega)]; exact g1.2.2.2
  · rw [k5 _ (by omega), k4 _ (by omega), k3 _ (by omega)]; exact g2.1
  · rw [k5 _ (by omega), k4 _ (by omega), k3 _ (by omega)]; exact g2.2.1
  · rw [k5 _ (by omega), k4 _ (by omega), k3 _ (by omega)]; exact g2.2.2.1
  · rw [k5 _ (by omega), k4 _ (by omega), k3 _ (by omega)]; exact g2.2.2.2
  · rw [k5 _ (by omega), k4 _ (by omega)]; exact g3.1
  · rw [k5 _ (by omega), k4 _ (by omega)]; exact g3.2.1
  · rw [k5 _ (by omega), k4 _ (by omega)]; exact g3.2.2.1
  · rw [k5 _ (by omega), k4 _ (by omega)]; exact g3.2.2.2
  · rw [k5 _ (by omega)]; exact g4.1
  · rw [k5 _ (by omega)]; exact g4.2.1
  · rw [k5 _ (by omega)]; exact g4.2.2.1
  · rw [k5 _ (by omega)]; exact g4.2.2.2
  · exact g5.1
  · exact g5.2.1
  · exact g5.2.2.1
  · exact g5.2.2.2
theorem fv_eq {c : Nat → Int32} {x : Nat → Nat} (hc : ∀ k, k < 20 → c k = nI (x k)) (hx : ∀ k, k < 20 → x k < 128) : fvA c 20 0 = nI (pk4 (x 0) (x 1) (x 2) (x 3)) ∧ fvA c 20 1 = nI (pk4 (x 4) (x 5) (x 6) (x 7)) ∧ fvA c 20 2 = nI (pk4 (x 8) (x 9) (x 10) (x 11)) ∧ fvA c 20 3 = nI (pk4 (x 12) (x 13) (x 14) (x 15)) ∧ fvA c 20 4 = nI (pk4 (x 16) (x 17) (x 18) (x 19)) := by
  have g : ∀ i, i + 3 < 20 → ((((((((0 : Int32) <<< ((8 : Int32) &&& 31)) ||| c i) <<< ((8 : Int32) &&& 31)) ||| c (i + 1)) <<< ((8 : Int32) &&& 31)) ||| c (i + 2)) <<< ((8 : Int32) &&& 31)) ||| c (i + 3) = nI (pk4 (x i) (x (i + 1)) (x (i + 2)) (x (i + 3))) := fun i hi => by
    rw [hc i (by omega), hc (i + 1) (by omega), hc (i + 2) (by omega), hc (i + 3) (by omega)]
    exact pk4_eq (hx i (by omega)) (hx (i + 1) (by omega)) (hx (i + 2) (by omega)) (hx (i + 3) (by omega))
  exact ⟨g 0 (by decide), g 4 (by decide), g 8 (by decide), g 12 (by decide), g 16 (by decide)⟩
theorem qsL_get {a : Nat → Int32} {n : Nat} {q : RT × Nat} (hq : q.2 = 0) {tx : Nat → Nat} (ha : ∀ j, j < n → a j = nI (tx j)) (hc : ∀ j, j < n → tx j < 128) : ∀ it j, j < 20 * it → j < n → (qsL a n q it).1 j &&& 255 = nI (tx j)
  | 0, j, h, _ => absurd h (by omega)
  | it + 1, j, h, hj => by
    have ih := qsL_get hq ha hc it
    have e2 := qsL_2 a n q it
    obtain ⟨x, hx⟩ : ∃ x : Nat → Nat, x = fun k => if 20 * it + k < n then tx (20 * it + k) else 32 := ⟨_, rfl⟩
    have hx1 : ∀ k, k < 20 → cfL a n it k = nI (x k) := fun k _ => by
      rw [hx, cfL]
      show _ = nI (if 20 * it + k < n then tx (20 * it + k) else 32)
      split
      · next h9 => exact ha _ h9
      · rfl
    have hx2 : ∀ k, k < 20 → x k < 128 := fun k _ => by
      rw [hx]
      show (if 20 * it + k < n then tx (20 * it + k) else 32) < 128
      split
      · next h9 => exact hc _ h9
      · decide
    obtain ⟨f0, f1, f2, f3, f4⟩ := fv_eq hx1 hx2
    obtain ⟨g1, g2⟩ := app_get hx2 (qsL a n q it)
    show (b_app (fvA (cfL a n it) 20 0) (fvA (cfL a n it) 20 1) (fvA (cfL a n it) 20 2) (fvA (cfL a n it) 20 3) (fvA (cfL a n it) 20 4) (qsL a n q it)).1 j &&& 255 = _
    rw [f0, f1, f2, f3, f4]
    by_cases h9 : j < 20 * it
    · rw [g1 j (by omega)]
      exact ih j h9 hj
    · obtain ⟨k, rfl⟩ : ∃ k, j = 20 * it + k := ⟨j - 20 * it, by omega⟩
      have h8 := g2 k (by omega)
      rw [e2, hq, Nat.zero_add] at h8
      rw [h8, hx]
      show nI (if 20 * it + k < n then tx (20 * it + k) else 32) = _
      rw [if_pos hj]
set_option maxHeartbeats 1000000 in
set_option maxRecDepth 100000 in
theorem c_L_says (l : Launch) (G : gT) (u : Nat → Nat → Nat) (z : OS) (t w n : Nat) (a : Nat → Int32) (tx : Nat → Nat) (hn : n ≤ 109) (ha : ∀ j, j < n → a j = nI (tx j)) (hc : ∀ j, j < n → tx j < 128) (hq0 : (zi z).2 = 0) (hst : l.stackTraces = false) : TV l yL_says cL_says 5 { frames := 8, cells := 20, slots := 120, locals := 140 } [.ref (u 4 0), .ref t] G (sgW G t w n a ++ ofW G u z) (fun (q : RT × Nat) => q.2 = n ∧ ∀ j, j < n → q.1 j &&& 255 = nI (tx j)) (fun q => sgW G t w n a ++ ofW G u (zIn z q)) (fun (_ : Unit) => False) (fun _ => "") (fun _ => []) := by
  refine jt_v (own := RL) hst (by decide) rfl (Nat.le_of_ble_eq_true rfl) (fun x hl hC hR hN => ?_)
  subst hl
  refine J_iconst (v := nI 0) hC dL_says_0 rfl ?_
  refine J_istore_n hC [(2, .int (nI 0)), (0, .ref (u 4 0)), (1, .ref t)] dL_says_1 rfl (by decide) rfl ?_
  have key : ∀ (f it : Nat), 7 - it < f → 20 * it < n + 20 → J x G (sgW G t w n a ++ ofW G u (zIn z (qsL a n (zi z) it))) (2 * it) (11 * it) [(2, .int (nI (20 * it))), (0, .ref (u 4 0)), (1, .ref t)] [] 2 := by
    intro f
    induction f with
    | zero => exact fun _ h => absurd h (Nat.not_lt_zero _)
    | succ f ih =>
      intro it hf hit
      have eq2 : (qsL a n (zi z) it).2 = 20 * it := by rw [qsL_2, hq0]; omega
      refine J_iload_n hC dL_says_2 0 rfl rfl ?_
      refine J_aload_n hC dL_says_3 2 rfl rfl ?_
      refine J_callVi hC dL_says_4 wl_L_8 yi_J0_length_8abf5 (app_i (ofW G u (zIn z (qsL a n (zi z) it))) (c_sg_len _ G t w n a)) rfl rfl 0 12 rfl rfl ⟨Nat.le_of_ble_eq_true rfl, Nat.le_of_ble_eq_true rfl⟩ (Nat.le_of_ble_eq_true rfl) (by show 2 * it + 0 ≤ 20; omega) (by show 11 * it + 0 ≤ 120; omega) (fun r9 u9 h9 => ?_)
      subst h9
      refine J_ic_geN (a := 20 * it) (b := n) (tgt := 96) hC dL_says_7 (by decide) (by omega) (by omega) (fun c1 => ?_) (fun c1 => ?_)
      · refine J_aload_n hC dL_says_96 1 rfl rfl ?_
        refine J_aload_n hC dL_says_97 2 rfl rfl ?_
        refine J_callVi hC dL_says_98 wl_L_8 yi_J0_length_8abf5 (app_i (ofW G u (zIn z (qsL a n (zi z) it))) (c_sg_len _ G t w n a)) rfl rfl 0 12 rfl rfl ⟨Nat.le_of_ble_eq_true rfl, Nat.le_of_ble_eq_true rfl⟩ (Nat.le_of_ble_eq_true rfl) (by show 2 * it + 0 + 0 ≤ 20; omega) (by show 11 * it + 0 + 0 ≤ 120; omega) (fun r9 u9 h9 => ?_)
        subst h9
        refine J_callT0 hC hR.2.2.2.2.1 dL_says_101 wl_L_24 yi_X10_truncateInput (lt_i (sgW G t w n a) (b_truncateInput _ G u (zIn z (qsL a n (zi z) it)) (nI n) (by show (qsL a n (zi z) it).2 ≤ 600; omega) hst)) (fun _ h9 => h9 ⟨nI_pos (by omega), nI_nlt (a := (qsL a n (zi z) it).2) (b := n) (by omega) (by omega)⟩) rfl rfl 2 10 rfl rfl ⟨Nat.le_of_ble_eq_true rfl, Nat.le_of_ble_eq_true rfl⟩ (Nat.le_of_ble_eq_true rfl) (by show 2 * it + 0 + 0 + 1 ≤ 20; omega) (by show 11 * it + 0 + 0 + 6 ≤ 120; omega) (fun r9 w9 h9 => ?_)
        have k4 := nI_ij (by omega) (by have := h9.1; have h8 : (zi (zIn z (qsL a n (zi z) it))).2 = (qsL a n (zi z) it).2 := rfl; omega) h9.2.1
        subst k4
        refine J_pop hC dL_says_104 rfl ?_
        exact J_vretT hC hR dL_says_105 ((qsL a n (zi z) it).1, n) ⟨rfl, fun j hj => qsL_get hq0 ha hc it j (by omega) hj⟩ rfl (by show 2 * it + 0 + 0 + 1 ≤ 20; omega) (by show 11 * it + 0 + 0 + 6 ≤ 120; omega)
      · refine J_iconst (v := nI 5) hC dL_says_10 rfl ?_
        refine J_newI hC dL_says_11 (by decide) (by show 2 * it + 0 + 1 ≤ 20; omega) (by show 11 * it + 0 + 5 ≤ 120; omega) (fun b => ?_)
        refine J_perm (ws' := (b, .inl (gc G 0, 5, .inl (fvA (cfL a n it) 0))) :: (sgW G t w n a ++ ofW G u (zIn z (qsL a n (zi z) it)))) List.perm_append_comm ?_
        refine J_astore_n hC [(3, .ref b), (2, .int (nI (20 * it))), (0, .ref (u 4 0)), (1, .ref t)] dL_says_13 rfl (by decide) rfl ?_
        refine J_iconst (v := nI 0) hC dL_says_14 rfl ?_
        refine J_istore hC [(4, .int (nI 0)), (3, .ref b), (2, .int (nI (20 * it))), (0, .ref (u 4 0)), (1, .ref t)] dL_says_15 (by decide) rfl ?_
        have key2 : ∀ (f2 k : Nat), 20 - k < f2 → k ≤ 20 → J x G ((b, .inl (gc G 0, 5, .inl (fvA (cfL a n it) k))) :: (sgW G t w n a ++ ofW G u (zIn z (qsL a n (zi z) it)))) (2 * it + 1) (11 * it + 5) [(4, .int (nI k)), (3, .ref b), (2, .int (nI (20 * it))), (0, .ref (u 4 0)), (1, .ref t)] [] 17 := by
          intro f2
          induction f2 with
          | zero => exact fun _ h => absurd h (Nat.not_lt_zero _)
          | succ f2 ih2 =>
            intro k hf2 hk
            refine J_iload hC dL_says_17 0 rfl ?_
            refine J_bipush (v := 20) hC dL_says_19 rfl ?_
            refine J_ic_geN (a := k) (b := 20) (tgt := 70) hC dL_says_21 (by decide) (by omega) (by decide) (fun c2 => ?_) (fun c2 => ?_)
            · obtain rfl : k = 20 := by omega
              refine J_aload_n hC dL_says_70 3 rfl rfl ?_
              refine J_aload_n hC dL_says_71 1 rfl rfl ?_
              refine J_iconst (v := 0) hC dL_says_72 rfl ?_
              refine J_iald (i := 0) (v := fvA (cfL a n it) 20 0) hC dL_says_73 0 rfl (by decide) (by decide) rfl ?_
              refine J_aload_n hC dL_says_74 1 rfl rfl ?_
              refine J_iconst (v := 1) hC dL_says_75 rfl ?_
              refine J_iald (i := 1) (v := fvA (cfL a n it) 20 1) hC dL_says_76 0 rfl (by decide) (by decide) rfl ?_
              refine J_aload_n hC dL_says_77 1 rfl rfl ?_
              refine J_iconst (v := 2) hC dL_says_78 rfl ?_
              refine J_iald (i := 2) (v := fvA (cfL a n it) 20 2) hC dL_says_79 0 rfl (by decide) (by decide) rfl ?_
              refine J_aload_n hC dL_says_80 1 rfl rfl ?_
              refine J_iconst (v := 3) hC dL_says_81 rfl ?_
              refine J_iald (i := 3) (v := fvA (cfL a n it) 20 3) hC dL_says_82 0 rfl (by decide) (by decide) rfl ?_
              refine J_aload_n hC dL_says_83 1 rfl rfl ?_
              refine J_iconst (v := 4) hC dL_says_84 rfl ?_
              refine J_iald (i := 4) (v := fvA (cfL a n it) 20 4) hC dL_says_85 0 rfl (by decide) (by decide) rfl ?_
              refine J_callT0 hC hR.2.2.2.2.1 dL_says_86 wl_L_18 yi_X10_appendInput (lt_i ((b, .inl (gc G 0, 5, .inl (fvA (cfL a n it) 20))) :: sgW G t w n a) (b_appendInput _ G u (zIn z (qsL a n (zi z) it)) (fvA (cfL a n it) 20 0) (fvA (cfL a n it) 20 1) (fvA (cfL a n it) 20 2) (fvA (cfL a n it) 20 3) (fvA (cfL a n it) 20 4) (by show (qsL a n (zi z) it).2 ≤ 600; omega) hst)) (fun _ h9 => h9 (by show (qsL a n (zi z) it).2 + 20 ≤ 600; omega)) rfl rfl 3 10 rfl rfl ⟨Nat.le_of_ble_eq_true rfl, Nat.le_of_ble_eq_true rfl⟩ (Nat.le_of_ble_eq_true rfl) (by show 2 * it + 1 + 1 ≤ 20; omega) (by show 11 * it + 5 + 6 ≤ 120; omega) (fun r9 w9 h9 => ?_)
              refine J_pop hC dL_says_89 rfl ?_
              refine J_sub (ws' := sgW G t w n a ++ ofW G u (zIn z (qsL a n (zi z) (it + 1)))) [(b, .inl (gc G 0, 5, .inl (fvA (cfL a n it) 20)))] (List.perm_append_comm (l₁ := ([(b, .inl (gc G 0, 5, .inl (fvA (cfL a n it) 20)))] : va_W))) ?_
              refine J_iinc hC [(2, .int (nI (20 * (it + 1)))), (4, .int (nI 20)), (3, .ref b), (0, .ref (u 4 0)), (1, .ref t)] dL_says_90 2 rfl (nI_incc _ 20 20 (by decide)) (by decide) rfl ?_
              refine J_goto (tgt := 2) hC dL_says_93 (by decide) ?_
              refine J_lv [0, 3, 4] rfl ?_
              exact J_kn (by show 2 * it + 1 + 1 = 2 * (it + 1); omega) (by show 11 * it + 5 + 6 = 11 * (it + 1); omega) (ih (it + 1) (by omega) (by omega))
            · refine J_aload_n hC dL_says_24 1 rfl rfl ?_
              refine J_iload hC dL_says_25 0 rfl ?_
              refine J_iconst (v := 4) hC dL_says_27 rfl ?_
              refine J_idiv (v := nI (k / 4)) hC dL_says_28 (by decide) (nDv (by omega) (by decide) (by decide)) ?_
              refine J_aload_n hC dL_says_29 1 rfl rfl ?_
              refine J_iload hC dL_says_30 0 rfl ?_
              refine J_iconst (v := 4) hC dL_says_32 rfl ?_
              refine J_idiv (v := nI (k / 4)) hC dL_says_33 (by decide) (nDv (by omega) (by decide) (by decide)) ?_
              refine J_iald (i := k / 4) (v := fvA (cfL a n it) k (k / 4)) hC dL_says_34 0 rfl (by omega) (by decide) rfl ?_
              refine J_bipush (v := 8) hC dL_says_35 rfl ?_
              refine J_ishl (v := fvA (cfL a n it) k (k / 4) <<< ((8 : Int32) &&& 31)) hC dL_says_37 rfl ?_
              have p62 : J x G ((b, .inl (gc G 0, 5, .inl (fvA (cfL a n it) k))) :: (sgW G t w n a ++ ofW G u (zIn z (qsL a n (zi z) it)))) (2 * it + 1) (11 * it + 5) [(4, .int (nI k)), (3, .ref b), (2, .int (nI (20 * it))), (0, .ref (u 4 0)), (1, .ref t)] [.int (cfL a n it k), .int (fvA (cfL a n it) k (k / 4) <<< ((8 : Int32) &&& 31)), .int (nI (k / 4)), .ref b] 62 := by
                refine J_ior (v := fvA (cfL a n it) k (k / 4) <<< ((8 : Int32) &&& 31) ||| cfL a n it k) hC dL_says_62 rfl ?_
                refine J_iast (i := k / 4) (ws' := (b, .inl (gc G 0, 5, .inl (fvA (cfL a n it) (k + 1)))) :: (sgW G t w n a ++ ofW G u (zIn z (qsL a n (zi z) it)))) hC dL_says_63 0 rfl (by omega) (by decide) rfl ?_
                refine J_iinc hC [(4, .int (nI (k + 1))), (3, .ref b), (2, .int (nI (20 * it))), (0, .ref (u 4 0)), (1, .ref t)] dL_says_64 0 rfl (nI_inc _) (by decide) rfl ?_
                refine J_goto (tgt := 17) hC dL_says_67 (by decide) ?_
                exact ih2 (k + 1) (by omega) (by omega)
              refine J_iload_n hC dL_says_38 2 rfl rfl ?_
              refine J_iload hC dL_says_39 0 rfl ?_
              refine J_iadd (v := nI (20 * it + k)) hC dL_says_41 (nI_add (20 * it) k) ?_
              refine J_aload_n hC dL_says_42 4 rfl rfl ?_
              refine J_callVi hC dL_says_43 wl_L_8 yi_J0_length_8abf5 (appr_i [(b, .inl (gc G 0, 5, .inl (fvA (cfL a n it) k)))] (app_i (ofW G u (zIn z (qsL a n (zi z) it))) (c_sg_len _ G t w n a))) rfl rfl 1 12 rfl rfl ⟨Nat.le_of_ble_eq_true rfl, Nat.le_of_ble_eq_true rfl⟩ (Nat.le_of_ble_eq_true rfl) (by show 2 * it + 1 + 0 ≤ 20; omega) (by show 11 * it + 5 + 0 ≤ 120; omega) (fun r9 u9 h9 => ?_)
              subst h9
              refine J_ic_geN (a := 20 * it + k) (b := n) (tgt := 60) hC dL_says_46 (by decide) (by omega) (by omega) (fun c3 => ?_) (fun c3 => ?_)
              · refine J_bipush (v := 32) hC dL_says_60 rfl ?_
                rw [show cfL a n it k = 32 from if_neg (by omega)] at p62
                exact p62
              · refine J_aload_n hC dL_says_49 4 rfl rfl ?_
                refine J_iload_n hC dL_says_50 2 rfl rfl ?_
                refine J_iload hC dL_says_51 0 rfl ?_
                refine J_iadd (v := nI (20 * it + k)) hC dL_says_53 (nI_add (20 * it) k) ?_
                refine J_callVi hC dL_says_54 wl_L_14 yi_J0_charAt_5068e (appr_i [(b, .inl (gc G 0, 5, .inl (fvA (cfL a n it) k)))] (app_i (ofW G u (zIn z (qsL a n (zi z) it))) (c_sg_at _ G t w n a (20 * it + k) (tx (20 * it + k)) c3 (by omega) (hc _ c3) (ha _ c3)))) rfl rfl 1 12 rfl rfl ⟨Nat.le_of_ble_eq_true rfl, Nat.le_of_ble_eq_true rfl⟩ (Nat.le_of_ble_eq_true rfl) (by show 2 * it + 1 + 0 + 0 ≤ 20; omega) (by show 11 * it + 5 + 0 + 0 ≤ 120; omega) (fun r9 u9 h9 => ?_)
                subst h9
                refine J_goto (tgt := 62) hC dL_says_57 (by decide) ?_
                rw [show cfL a n it k = nI (tx (20 * it + k)) from (if_pos c3).trans (ha _ c3)] at p62
                exact p62
        exact key2 _ 0 (Nat.lt_succ_self _) (Nat.zero_le _)
  exact key _ 0 (Nat.lt_succ_self _) (by omega)


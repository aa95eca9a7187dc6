/-! THE LAW: says -/
/-- the letter k of the it-th piece of twenty -/
def cfL (a : Nat → Int32) (n it k : Nat) : Int32 := if 20 * it + k < n then a (20 * it + k) else 32
/-- the five numbers after k letters -/
def fvA (c : Nat → Int32) : Nat → Nat → Int32
  | 0 => fun _ => 0
  | k + 1 => upd (fvA c k) (k / 4) (fvA c k (k / 4) <<< ((8 : Int32) &&& 31) ||| c k)
/-- the input after it pieces -/
def qsL (a : Nat → Int32) (n : Nat) (q : RT × Nat) : Nat → RT × Nat
  | 0 => q
  | it + 1 => b_app (fvA (cfL a n it) 20 0) (fvA (cfL a n it) 20 1) (fvA (cfL a n it) 20 2) (fvA (cfL a n it) 20 3) (fvA (cfL a n it) 20 4) (qsL a n q it)
theorem qsL_2 (a : Nat → Int32) (n : Nat) (q : RT × Nat) : ∀ it, (qsL a n q it).2 = q.2 + 20 * it
  | 0 => rfl
  | it + 1 => by
    show (qsL a n q it).2 + 20 = _
    rw [qsL_2 a n q it]
    omega
theorem qsL_get {a : Nat → Int32} {n : Nat} {q : RT × Nat} (hq : q.2 = 0) {tx : Nat → Nat} (ha : ∀ j, j < n → a j = nI (tx j)) (hc : ∀ j, j < n → tx j < 128) : ∀ it j, j < 20 * it → j < n → (qsL a n q it).1 j &&& 255 = nI (tx j) := sorry
set_option maxHeartbeats 1000000 in
set_option maxRecDepth 100000 in
theorem c_L_says (l : Launch) (G : gT) (u : Nat → Nat → Nat) (z : OS) (t w n : Nat) (a : Nat → Int32) (tx : Nat → Nat) (hn : n ≤ 109) (ha : ∀ j, j < n → a j = nI (tx j)) (hc : ∀ j, j < n → tx j < 128) (hq0 : (zi z).2 = 0) (hst : l.stackTraces = false) : TV l yL_says cL_says 5 { frames := 8, cells := 20, slots := 120, locals := 140 } [.ref (u 4 0), .ref t] G (sgW G t w n a ++ ofW G u z) (fun (q : RT × Nat) => q.2 = n ∧ ∀ j, j < n → q.1 j &&& 255 = nI (tx j)) (fun q => sgW G t w n a ++ ofW G u (zIn z q)) (fun (_ : Unit) => False) (fun _ => "") (fun _ => []) := by
  refine jt_v (own := RL) hst (by decide) rfl (Nat.le_of_ble_eq_true rfl) (fun x hl hC hR hN => ?_)
  subst hl
  refine J_iconst (v := nI 0) hC dL_says_0 rfl ?_
  refine J_istore_n hC [(2, .int (nI 0)), (0, .ref (u 4 0)), (1, .ref t)] dL_says_1 rfl (by decide) rfl ?_
  have key : ∀ (f it : Nat), 7 - it < f → 20 * it < n + 20 → J x G (sgW G t w n a ++ ofW G u (zIn z (qsL a n (zi z) it))) (2 * it) (11 * it) [(2, .int (nI (20 * it))), (0, .ref (u 4 0)), (1, .ref t)] [] 2 := by
    intro f
    induction f with
    | zero => exact fun _ h => absurd h (Nat.not_lt_zero _)
    | succ f ih =>
      intro it hf hit
      have eq2 : (qsL a n (zi z) it).2 = 20 * it := by rw [qsL_2, hq0]; omega
      refine J_iload_n hC dL_says_2 0 rfl rfl ?_
      refine J_aload_n hC dL_says_3 2 rfl rfl ?_
      refine J_callVi hC dL_says_4 wl_L_8 yi_J0_length_8abf5 (app_i (ofW G u (zIn z (qsL a n (zi z) it))) (c_sg_len _ G t w n a)) rfl rfl 0 12 rfl rfl ⟨Nat.le_of_ble_eq_true rfl, Nat.le_of_ble_eq_true rfl⟩ (Nat.le_of_ble_eq_true rfl) (by show 2 * it + 0 ≤ 20; omega) (by show 11 * it + 0 ≤ 120; omega) (fun r9 u9 h9 => ?_)
      subst h9
      refine J_ic_geN (a := 20 * it) (b := n) (tgt := 96) hC dL_says_7 (by decide) (by omega) (by omega) (fun c1 => ?_) (fun c1 => ?_)
      · refine J_aload_n hC dL_says_96 1 rfl rfl ?_
        refine J_aload_n hC dL_says_97 2 rfl rfl ?_
        refine J_callVi hC dL_says_98 wl_L_8 yi_J0_length_8abf5 (app_i (ofW G u (zIn z (qsL a n (zi z) it))) (c_sg_len _ G t w n a)) rfl rfl 0 12 rfl rfl ⟨Nat.le_of_ble_eq_true rfl, Nat.le_of_ble_eq_true rfl⟩ (Nat.le_of_ble_eq_true rfl) (by show 2 * it + 0 + 0 ≤ 20; omega) (by show 11 * it + 0 + 0 ≤ 120; omega) (fun r9 u9 h9 => ?_)
        subst h9
        refine J_callT0 hC hR.2.2.2.2.1 dL_says_101 wl_L_24 yi_X10_truncateInput (lt_i (sgW G t w n a) (b_truncateInput _ G u (zIn z (qsL a n (zi z) it)) (nI n) (by show (qsL a n (zi z) it).2 ≤ 600; omega) hst)) (fun _ h9 => h9 ⟨nI_pos (by omega), nI_nlt (a := (qsL a n (zi z) it).2) (b := n) (by omega) (by omega)⟩) rfl rfl 2 10 rfl rfl ⟨Nat.le_of_ble_eq_true rfl, Nat.le_of_ble_eq_true rfl⟩ (Nat.le_of_ble_eq_true rfl) (by show 2 * it + 0 + 0 + 1 ≤ 20; omega) (by show 11 * it + 0 + 0 + 6 ≤ 120; omega) (fun r9 w9 h9 => ?_)
        have k4 := nI_ij (by omega) (by have := h9.1; have h8 : (zi (zIn z (qsL a n (zi z) it))).2 = (qsL a n (zi z) it).2 := rfl; omega) h9.2.1
        subst k4
        refine J_pop hC dL_says_104 rfl ?_
        exact J_vretT hC hR dL_says_105 ((qsL a n (zi z) it).1, n) ⟨rfl, fun j hj => qsL_get hq0 ha hc it j (by omega) hj⟩ rfl (by show 2 * it + 0 + 0 + 1 ≤ 20; omega) (by show 11 * it + 0 + 0 + 6 ≤ 120; omega)
      · refine J_iconst (v := nI 5) hC dL_says_10 rfl ?_
        refine J_newI hC dL_says_11 (by decide) (by show 2 * it + 0 + 1 ≤ 20; omega) (by show 11 * it + 0 + 5 ≤ 120; omega) (fun b => ?_)
        refine J_perm (ws' := (b, .inl (gc G 0, 5, .inl (fvA (cfL a n it) 0))) :: (sgW G t w n a ++ ofW G u (zIn z (qsL a n (zi z) it)))) List.perm_append_comm ?_
        refine J_astore_n hC [(3, .ref b), (2, .int (nI (20 * it))), (0, .ref (u 4 0)), (1, .ref t)] dL_says_13 rfl (by decide) rfl ?_
        refine J_iconst (v := nI 0) hC dL_says_14 rfl ?_
        refine J_istore hC [(4, .int (nI 0)), (3, .ref b), (2, .int (nI (20 * it))), (0, .ref (u 4 0)), (1, .ref t)] dL_says_15 (by decide) rfl ?_
        have key2 : ∀ (f2 k : Nat), 20 - k < f2 → k ≤ 20 → J x G ((b, .inl (gc G 0, 5, .inl (fvA (cfL a n it) k))) :: (sgW G t w n a ++ ofW G u (zIn z (qsL a n (zi z) it)))) (2 * it + 1) (11 * it + 5) [(4, .int (nI k)), (3, .ref b), (2, .int (nI (20 * it))), (0, .ref (u 4 0)), (1, .ref t)] [] 17 := by
          intro f2
          induction f2 with
          | zero => exact fun _ h => absurd h (Nat.not_lt_zero _)
          | succ f2 ih2 =>
            intro k hf2 hk
            refine J_iload hC dL_says_17 0 rfl ?_
            refine J_bipush (v := 20) hC dL_says_19 rfl ?_
            refine J_ic_geN (a := k) (b := 20) (tgt := 70) hC dL_says_21 (by decide) (by omega) (by decide) (fun c2 => ?_) (fun c2 => ?_)
            · obtain rfl : k = 20 := by omega
              refine J_aload_n hC dL_says_70 3 rfl rfl ?_
              refine J_aload_n hC dL_says_71 1 rfl rfl ?_
              refine J_iconst (v := 0) hC dL_says_72 rfl ?_
              refine J_iald (i := 0) (v := fvA (cfL a n it) 20 0) hC dL_says_73 0 rfl (by decide) (by decide) rfl ?_
              refine J_aload_n hC dL_says_74 1 rfl rfl ?_
              refine J_iconst (v := 1) hC dL_says_75 rfl ?_
              refine J_iald (i := 1) (v := fvA (cfL a n it) 20 1) hC dL_says_76 0 rfl (by decide) (by decide) rfl ?_
              refine J_aload_n hC dL_says_77 1 rfl rfl ?_
              refine J_iconst (v := 2) hC dL_says_78 rfl ?_
              refine J_iald (i := 2) (v := fvA (cfL a n it) 20 2) hC dL_says_79 0 rfl (by decide) (by decide) rfl ?_
              refine J_aload_n hC dL_says_80 1 rfl rfl ?_
              refine J_iconst (v := 3) hC dL_says_81 rfl ?_
              refine J_iald (i := 3) (v := fvA (cfL a n it) 20 3) hC dL_says_82 0 rfl (by decide) (by decide) rfl ?_
              refine J_aload_n hC dL_says_83 1 rfl rfl ?_
              refine J_iconst (v := 4) hC dL_says_84 rfl ?_
              refine J_iald (i := 4) (v := fvA (cfL a n it) 20 4) hC dL_says_85 0 rfl (by decide) (by decide) rfl ?_
              refine J_callT0 hC hR.2.2.2.2.1 dL_says_86 wl_L_18 yi_X10_appendInput (lt_i ((b, .inl (gc G 0, 5, .inl (fvA (cfL a n it) 20))) :: sgW G t w n a) (b_appendInput _ G u (zIn z (qsL a n (zi z) it)) (fvA (cfL a n it) 20 0) (fvA (cfL a n it) 20 1) (fvA (cfL a n it) 20 2) (fvA (cfL a n it) 20 3) (fvA (cfL a n it) 20 4) (by show (qsL a n (zi z) it).2 ≤ 600; omega) hst)) (fun _ h9 => h9 (by show (qsL a n (zi z) it).2 + 20 ≤ 600; omega)) rfl rfl 3 10 rfl rfl ⟨Nat.le_of_ble_eq_true rfl, Nat.le_of_ble_eq_true rfl⟩ (Nat.le_of_ble_eq_true rfl) (by show 2 * it + 1 + 1 ≤ 20; omega) (by show 11 * it + 5 + 6 ≤ 120; omega) (fun r9 w9 h9 => ?_)
              refine J_pop hC dL_says_89 rfl ?_
              refine J_sub (ws' := sgW G t w n a ++ ofW G u (zIn z (qsL a n (zi z) (it + 1)))) [(b, .inl (gc G 0, 5, .inl (fvA (cfL a n it) 20)))] (List.perm_append_comm (l₁ := ([(b, .inl (gc G 0, 5, .inl (fvA (cfL a n it) 20)))] : va_W))) ?_
              refine J_iinc hC [(2, .int (nI (20 * (it + 1)))), (4, .int (nI 20)), (3, .ref b), (0, .ref (u 4 0)), (1, .ref t)] dL_says_90 2 rfl (nI_incc _ 20 20 (by decide)) (by decide) rfl ?_
              refine J_goto (tgt := 2) hC dL_says_93 (by decide) ?_
              refine J_lv [0, 3, 4] rfl ?_
              exact J_kn (by show 2 * it + 1 + 1 = 2 * (it + 1); omega) (by show 11 * it + 5 + 6 = 11 * (it + 1); omega) (ih (it + 1) (by omega) (by omega))
            · refine J_aload_n hC dL_says_24 1 rfl rfl ?_
              refine J_iload hC dL_says_25 0 rfl ?_
              refine J_iconst (v := 4) hC dL_says_27 rfl ?_
              refine J_idiv (v := nI (k / 4)) hC dL_says_28 (by decide) (nDv (by omega) (by decide) (by decide)) ?_
              refine J_aload_n hC dL_says_29 1 rfl rfl ?_
              refine J_iload hC dL_says_30 0 rfl ?_
              refine J_iconst (v := 4) hC dL_says_32 rfl ?_
              refine J_idiv (v := nI (k / 4)) hC dL_says_33 (by decide) (nDv (by omega) (by decide) (by decide)) ?_
              refine J_iald (i := k / 4) (v := fvA (cfL a n it) k (k / 4)) hC dL_says_34 0 rfl (by omega) (by decide) rfl ?_
              refine J_bipush (v := 8) hC dL_says_35 rfl ?_
              refine J_ishl (v := fvA (cfL a n it) k (k / 4) <<< ((8 : Int32) &&& 31)) hC dL_says_37 rfl ?_
              have p62 : J x G ((b, .inl (gc G 0, 5, .inl (fvA (cfL a n it) k))) :: (sgW G t w n a ++ ofW G u (zIn z (qsL a n (zi z) it)))) (2 * it + 1) (11 * it + 5) [(4, .int (nI k)), (3, .ref b), (2, .int (nI (20 * it))), (0, .ref (u 4 0)), (1, .ref t)] [.int (cfL a n it k), .int (fvA (cfL a n it) k (k / 4) <<< ((8 : Int32) &&& 31)), .int (nI (k / 4)), .ref b] 62 := by
                refine J_ior (v := fvA (cfL a n it) k (k / 4) <<< ((8 : Int32) &&& 31) ||| cfL a n it k) hC dL_says_62 rfl ?_
                refine J_iast (i := k / 4) (ws' := (b, .inl (gc G 0, 5, .inl (fvA (cfL a n it) (k + 1)))) :: (sgW G t w n a ++ ofW G u (zIn z (qsL a n (zi z) it)))) hC dL_says_63 0 rfl (by omega) (by decide) rfl ?_
                refine J_iinc hC [(4, .int (nI (k + 1))), (3, .ref b), (2, .int (nI (20 * it))), (0, .ref (u 4 0)), (1, .ref t)] dL_says_64 0 rfl (nI_inc _) (by decide) rfl ?_
                refine J_goto (tgt := 17) hC dL_says_67 (by decide) ?_
                exact ih2 (k + 1) (by omega) (by omega)
              refine J_iload_n hC dL_says_38 2 rfl rfl ?_
              refine J_iload hC dL_says_39 0 rfl ?_
              refine J_iadd (v := nI (20 * it + k)) hC dL_says_41 (nI_add (20 * it) k) ?_
              refine J_aload_n hC dL_says_42 4 rfl rfl ?_
              refine J_callVi hC dL_says_43 wl_L_8 yi_J0_length_8abf5 (appr_i [(b, .inl (gc G 0, 5, .inl (fvA (cfL a n it) k)))] (app_i (ofW G u (zIn z (qsL a n (zi z) it))) (c_sg_len _ G t w n a))) rfl rfl 1 12 rfl rfl ⟨Nat.le_of_ble_eq_true rfl, Nat.le_of_ble_eq_true rfl⟩ (Nat.le_of_ble_eq_true rfl) (by show 2 * it + 1 + 0 ≤ 20; omega) (by show 11 * it + 5 + 0 ≤ 120; omega) (fun r9 u9 h9 => ?_)
              subst h9
              refine J_ic_geN (a := 20 * it + k) (b := n) (tgt := 60) hC dL_says_46 (by decide) (by omega) (by omega) (fun c3 => ?_) (fun c3 => ?_)
              · refine J_bipush (v := 32) hC dL_says_60 rfl ?_
                rw [show cfL a n it k = 32 from if_neg (by omega)] at p62
                exact p62
              · refine J_aload_n hC dL_says_49 4 rfl rfl ?_
                refine J_iload_n hC dL_says_50 2 rfl rfl ?_
                refine J_iload hC dL_says_51 0 rfl ?_
                refine J_iadd (v := nI (20 * it + k)) hC dL_says_53 (nI_add (20 * it) k) ?_
                refine J_callVi hC dL_says_54 wl_L_14 yi_J0_charAt_5068e (appr_i [(b, .inl (gc G 0, 5, .inl (fvA (cfL a n it) k)))] (app_i (ofW G u (zIn z (qsL a n (zi z) it))) (c_sg_at _ G t w n a (20 * it + k) (tx (20 * it + k)) c3 (by omega) (hc _ c3) (ha _ c3)))) rfl rfl 1 12 rfl rfl ⟨Nat.le_of_ble_eq_true rfl, Nat.le_of_ble_eq_true rfl⟩ (Nat.le_of_ble_eq_true rfl) (by show 2 * it + 1 + 0 + 0 ≤ 20; omega) (by show 11 * it + 5 + 0 + 0 ≤ 120; omega) (fun r9 u9 h9 => ?_)
                subst h9
                refine J_goto (tgt := 62) hC dL_says_57 (by decide) ?_
                rw [show cfL a n it k = nI (tx (20 * it + k)) from (if_pos c3).trans (ha _ c3)] at p62
                exact p62
        exact key2 _ 0 (Nat.lt_succ_self _) (Nat.zero_le _)
  exact key _ 0 (Nat.lt_succ_self _) (by omega)


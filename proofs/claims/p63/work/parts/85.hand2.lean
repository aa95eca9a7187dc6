/-! THE HAND: remembers, weather -/
def hup (h : Nat → Nat) (i b : Nat) : Nat → Nat := fun j => if j = i then b else h j
def rsk (r : Nat → Nat) (at9 : Nat) : Nat → Nat := fun j => r (if j < at9 then j else j + 1)
theorem pm_book {α : Type} (A R : List α) (b o : α) : (b :: (A ++ o :: R)).Perm ((A ++ b :: R) ++ [o]) := by
  refine (List.Perm.cons b List.perm_middle).trans ?_
  refine List.Perm.trans ?_ (List.perm_append_comm (l₁ := [o]) (l₂ := A ++ b :: R))
  exact (List.Perm.swap o b _).trans (List.Perm.cons o List.perm_middle.symm)
def mc2 (mc : Nat) : Nat := if mc = 10 then 10 else mc + 1
def s_memT (S : CT) (t : Int32) (mc : Nat) : CT := ur (us S 16 3 (S 16 3 + 1)) 15 (fun j => if j = mc2 mc - 1 then t else S 15 (j + (if mc = 10 then 1 else 0)))
theorem mc2_le {mc : Nat} (h : mc ≤ 10) : mc2 mc ≤ 10 ∧ 1 ≤ mc2 mc ∧ mc - (if mc = 10 then 1 else 0) + 1 = mc2 mc := by
  unfold mc2
  split <;> omega
set_option maxRecDepth 100000 in
theorem c_X11_remembers (l : Launch) (G : gT) (h r : Nat → Nat) (n mc : Nat) (S : CT) (t : Int32) (hmc : mc ≤ 10) : MV l yX11_remembers cX11_remembers 5 { frames := 0, cells := 1, slots := 10, locals := 0 } [.ref (h 0), .int t] G (hdW G h r n mc S) (fun (_ : Nat) => True) (fun b => hdW G (hup h 10 b) r n (mc2 mc) (s_memT S t mc)) := by
  refine jm_v (own := RX11) (by decide) rfl (Nat.le_of_ble_eq_true rfl) (fun x hl hC hR hN => ?_)
  subst hl
  refine J_aload_n hC dX11_remembers_0 0 rfl rfl ?_
  refine J_get (v := .ref (h 10)) hC wu_X11 rfl dX11_remembers_1 0 9 (by decide) wf_X11_39 rfl rfl ?_
  refine J_alen hC dX11_remembers_4 10 rfl (t := 0) rfl ?_
  dsimp only
  refine J_bipush (v := 10) hC dX11_remembers_5 rfl ?_
  obtain ⟨f9, hf9⟩ : ∃ z : Nat, z = (if mc = 10 then 1 else 0) := ⟨_, rfl⟩
  have hm2 := mc2_le hmc
  rw [← hf9] at hm2
  have hf1 : f9 ≤ mc := by rw [hf9]; split <;> omega
  have p15 : J x G (hdW G h r n mc S) 0 0 [(0, .ref (h 0)), (1, .int t)] [.int (nI f9)] 15 := by
    refine J_istore_n hC [(2, .int (nI f9)), (0, .ref (h 0)), (1, .int t)] dX11_remembers_15 rfl (by decide) rfl ?_
    refine J_aload_n hC dX11_remembers_16 1 rfl rfl ?_
    refine J_get (v := .ref (h 10)) hC wu_X11 rfl dX11_remembers_17 0 9 (by decide) wf_X11_39 rfl rfl ?_
    refine J_alen hC dX11_remembers_20 10 rfl (t := 0) rfl ?_
    dsimp only
    refine J_iload_n hC dX11_remembers_21 0 rfl rfl ?_
    refine J_isub (v := nI (mc - f9)) hC dX11_remembers_22 (pk_sub hf1) ?_
    refine J_iconst (v := 1) hC dX11_remembers_23 rfl ?_
    refine J_iadd (v := nI (mc2 mc)) hC dX11_remembers_24 ((nI_1 _).trans (congrArg nI hm2.2.2)) ?_
    refine J_newI hC dX11_remembers_25 (by omega) (Nat.le_of_ble_eq_true rfl) (by show 0 + mc2 mc ≤ 10; omega) (fun b => ?_)
    refine J_perm (ws' := (b, .inl (gc G 0, mc2 mc, .inl (fun _ => 0))) :: hdW G h r n mc S) List.perm_append_comm ?_
    refine J_astore_n hC [(3, .ref b), (2, .int (nI f9)), (0, .ref (h 0)), (1, .int t)] dX11_remembers_27 rfl (by decide) rfl ?_
    refine J_iconst (v := 0) hC dX11_remembers_28 rfl ?_
    refine J_istore hC [(4, .int 0), (3, .ref b), (2, .int (nI f9)), (0, .ref (h 0)), (1, .int t)] dX11_remembers_29 (by decide) rfl ?_
    have key : ∀ (m k : Nat) (g : Nat → Int32), mc2 mc - k < m → k ≤ mc2 mc - 1 → (∀ j, j < k → g j = S 15 (j + f9)) → J x G ((b, .inl (gc G 0, mc2 mc, .inl g)) :: hdW G h r n mc S) (0 + 1) (0 + mc2 mc) [(4, .int (nI k)), (3, .ref b), (2, .int (nI f9)), (0, .ref (h 0)), (1, .int t)] [] 31 := by
      intro m
      induction m with
      | zero => exact fun _ _ h => absurd h (Nat.not_lt_zero _)
      | succ m ih =>
        intro k g hm hk hg
        refine J_iload hC dX11_remembers_31 0 rfl ?_
        refine J_aload_n hC dX11_remembers_33 1 rfl rfl ?_
        refine J_alen hC dX11_remembers_34 0 rfl (t := 0) rfl ?_
        refine J_iconst (v := 1) hC dX11_remembers_35 rfl ?_
        refine J_isub (v := nI (mc2 mc - 1)) hC dX11_remembers_36 (pk_sub (a := mc2 mc) (b := 1) hm2.2.1) ?_
        refine J_ic_geN (a := k) (b := mc2 mc - 1) (tgt := 59) hC dX11_remembers_37 (by decide) (by omega) (by omega) (fun c1 => ?_) (fun c1 => ?_)
        · refine J_aload_n hC dX11_remembers_59 1 rfl rfl ?_
          refine J_aload_n hC dX11_remembers_60 1 rfl rfl ?_
          refine J_alen hC dX11_remembers_61 0 rfl (t := 0) rfl ?_
          refine J_iconst (v := 1) hC dX11_remembers_62 rfl ?_
          refine J_isub (v := nI (mc2 mc - 1)) hC dX11_remembers_63 (pk_sub (a := mc2 mc) (b := 1) hm2.2.1) ?_
          refine J_iload_n hC dX11_remembers_64 4 rfl rfl ?_
          refine J_iast (ws' := ((b, .inl (gc G 0, mc2 mc, .inl (upd g (mc2 mc - 1) t))) :: hdW G h r n mc S)) hC dX11_remembers_65 0 rfl (by omega) (by omega) rfl ?_
          refine J_aload_n hC dX11_remembers_66 3 rfl rfl ?_
          refine J_aload_n hC dX11_remembers_67 1 rfl rfl ?_
          refine J_put (ws' := (b, .inl (gc G 0, mc2 mc, .inl (upd g (mc2 mc - 1) t))) :: (h 0, .inr (11, hdO (hup h 10 b) S)) :: (hdW G h r n mc S).tail) hC wu_X11 rfl tyX11_ok nmX11 dX11_remembers_68 1 9 (by decide) wf_X11_39 rfl rfl (Nat.le_of_ble_eq_true rfl) rfl rfl rfl ?_
          refine J_aload_n hC dX11_remembers_71 3 rfl rfl ?_
          refine J_dup hC dX11_remembers_72 rfl ?_
          refine J_get (v := .int (S 16 3)) hC wu_X11 rfl dX11_remembers_73 1 14 (by decide) wf_X11_67 rfl rfl ?_
          refine J_iconst (v := 1) hC dX11_remembers_76 rfl ?_
          refine J_iadd (v := S 16 3 + 1) hC dX11_remembers_77 rfl ?_
          refine J_put (ws' := (b, .inl (gc G 0, mc2 mc, .inl (upd g (mc2 mc - 1) t))) :: (h 0, .inr (11, hdO (hup h 10 b) (us S 16 3 (S 16 3 + 1)))) :: (hdW G h r n mc S).tail) hC wu_X11 rfl tyX11_ok nmX11 dX11_remembers_78 1 14 (by decide) wf_X11_67 rfl rfl (Nat.le_of_ble_eq_true rfl) rfl rfl rfl ?_
          refine J_sub (ws' := hdW G (hup h 10 b) r n (mc2 mc) (ur (us S 16 3 (S 16 3 + 1)) 15 (upd g (mc2 mc - 1) t))) [(h 10, .inl (gc G 0, mc, .inl (S 15)))] (pm_book (((h 0, .inr (11, hdO (hup h 10 b) (us S 16 3 (S 16 3 + 1)))) :: ((hdF G h r n mc S).tail.take 9))) (rwW G r n S) _ _) ?_
          refine J_hd (S' := s_memT S t mc) ⟨fun _ _ => ⟨rfl, rfl, rfl, rfl⟩, fun _ _ => ⟨rfl, rfl, rfl, rfl⟩, fun j hj => ?_, fun _ _ => ⟨rfl, rfl, rfl, rfl, rfl⟩, rfl, rfl, rfl, rfl, rfl, rfl⟩ ?_
          · show upd g (mc2 mc - 1) t j = (if j = mc2 mc - 1 then t else S 15 (j + (if mc = 10 then 1 else 0)))
            unfold upd
            by_cases hj1 : j = mc2 mc - 1
            · rw [if_pos hj1, if_pos hj1]
            · rw [if_neg hj1, if_neg hj1, ← hf9]; exact hg j (by omega)
          exact J_vret hC hR dX11_remembers_81 b trivial rfl (by decide) (by show 0 + mc2 mc ≤ 10; omega)
        · refine J_aload_n hC dX11_remembers_40 1 rfl rfl ?_
          refine J_iload hC dX11_remembers_41 0 rfl ?_
          refine J_aload_n hC dX11_remembers_43 3 rfl rfl ?_
          refine J_get (v := .ref (h 10)) hC wu_X11 rfl dX11_remembers_44 1 9 (by decide) wf_X11_39 rfl rfl ?_
          refine J_iload hC dX11_remembers_47 0 rfl ?_
          refine J_iload_n hC dX11_remembers_49 2 rfl rfl ?_
          refine J_iadd (v := nI (k + f9)) hC dX11_remembers_50 (nI_add k f9) ?_
          refine J_iald (i := k + f9) (v := S 15 (k + f9)) hC dX11_remembers_51 11 rfl (by omega) (by omega) rfl ?_
          refine J_iast (ws' := ((b, .inl (gc G 0, mc2 mc, .inl (upd g k (S 15 (k + f9))))) :: hdW G h r n mc S)) hC dX11_remembers_52 0 rfl (by omega) (by omega) rfl ?_
          refine J_iinc hC [(4, .int (nI (k + 1))), (3, .ref b), (2, .int (nI f9)), (0, .ref (h 0)), (1, .int t)] dX11_remembers_53 0 rfl (nI_inc _) (by decide) rfl ?_
          refine J_goto (tgt := 31) hC dX11_remembers_56 (by decide) ?_
          refine ih (k + 1) (upd g k (S 15 (k + f9))) (by omega) (by omega) (fun j hj => ?_)
          by_cases hjk : j = k
          · subst hjk; exact pk_us
          · rw [pk_un hjk]; exact hg j (by omega)
    exact key _ 0 _ (Nat.lt_succ_self _) (Nat.zero_le _) (fun j hj => absurd hj (Nat.not_lt_zero _))
  refine J_ic_neN (a := mc) (b := 10) (tgt := 14) hC dX11_remembers_7 (by decide) (by omega) (by decide) (fun c1 => ?_) (fun c1 => ?_)
  · obtain rfl : f9 = 0 := by rw [hf9, if_neg c1]
    refine J_iconst (v := 0) hC dX11_remembers_14 rfl ?_
    exact p15
  · obtain rfl : f9 = 1 := by rw [hf9, if_pos c1]
    refine J_iconst (v := 1) hC dX11_remembers_10 rfl ?_
    refine J_goto (tgt := 15) hC dX11_remembers_11 (by decide) ?_
    exact p15


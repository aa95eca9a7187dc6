/-! THE HAND: remembers, weather -/
def hup (h : Nat → Nat) (i b : Nat) : Nat → Nat := fun j => if j = i then b else h j
def rsk (r : Nat → Nat) (at9 : Nat) : Nat → Nat := fun j => r (if j < at9 then j else j + 1)
theorem pm_book {α : Type} (A R : List α) (b o : α) : (b :: (A ++ o :: R)).Perm ((A ++ b :: R) ++ [o]) := by
  refine (List.Perm.cons b List.perm_middle).trans ?_
  refine List.Perm.trans ?_ (List.perm_append_comm (l₁ := [o]) (l₂ := A ++ b :: R))
  exact (List.Perm.swap o b _).trans (List.Perm.cons o List.perm_middle.symm)
def mc2 (mc : Nat) : Nat := if mc = 10 then 10 else mc + 1
def s_memT (S : CT) (t : Int32) (mc : Nat) : CT := ur (us S 16 3 (S 16 3 + 1)) 15 (fun j => if j = mc2 mc - 1 then t else S 15 (j + (if mc = 10 then 1 else 0)))
theorem mc2_le {mc : Nat} (h : mc ≤ 10) : mc2 mc ≤ 10 ∧ 1 ≤ mc2 mc ∧ mc - (if mc = 10 then 1 else 0) + 1 = mc2 mc := by
  unfold mc2
  split <;> omega
set_option maxRecDepth 100000 in
theorem c_X11_remembers (l : Launch) (G : gT) (h r : Nat → Nat) (n mc : Nat) (S : CT) (t : Int32) (hmc : mc ≤ 10) : MV l yX11_remembers cX11_remembers 5 { frames := 0, cells := 1, slots := 10, locals := 0 } [.ref (h 0), .int t] G (hdW G h r n mc S) (fun (_ : Nat) => True) (fun b => hdW G (hup h 10 b) r n (mc2 mc) (s_memT S t mc)) := by
  refine jm_v (own := RX11) (by decide) rfl (Nat.le_of_ble_eq_true rfl) (fun x hl hC hR hN => ?_)
  subst hl
  refine J_aload_n hC dX11_remembers_0 0 rfl rfl ?_
  refine J_get (v := .ref (h 10)) hC wu_X11 rfl dX11_remembers_1 0 9 (by decide) wf_X11_39 rfl rfl ?_
  refine J_alen hC dX11_remembers_4 10 rfl (t := 0) rfl ?_
  dsimp only
  refine J_bipush (v := 10) hC dX11_remembers_5 rfl ?_
  obtain ⟨f9, hf9⟩ : ∃ z : Nat, z = (if mc = 10 then 1 else 0) := ⟨_, rfl⟩
  have hm2 := mc2_le hmc
  rw [← hf9] at hm2
  have hf1 : f9 ≤ mc := by rw [hf9]; split <;> omega
  have p15 : J x G (hdW G h r n mc S) 0 0 [(0, .ref (h 0)), (1, .int t)] [.int (nI f9)] 15 := by
    refine J_istore_n hC [(2, .int (nI f9)), (0, .ref (h 0)), (1, .int t)] dX11_remembers_15 rfl (by decide) rfl ?_
    refine J_aload_n hC dX11_remembers_16 1 rfl rfl ?_
    refine J_get (v := .ref (h 10)) hC wu_X11 rfl dX11_remembers_17 0 9 (by decide) wf_X11_39 rfl rfl ?_
    refine J_alen hC dX11_remembers_20 10 rfl (t := 0) rfl ?_
    dsimp only
    refine J_iload_n hC dX11_remembers_21 0 rfl rfl ?_
    refine J_isub (v := nI (mc - f9)) hC dX11_remembers_22 (pk_sub hf1) ?_
    refine J_iconst (v := 1) hC dX11_remembers_23 rfl ?_
    refine J_iadd (v := nI (mc2 mc)) hC dX11_remembers_24 ((nI_1 _).trans (congrArg nI hm2.2.2)) ?_
    refine J_newI hC dX11_remembers_25 (by omega) (Nat.le_of_ble_eq_true rfl) (by show 0 + mc2 mc ≤ 10; omega) (fun b => ?_)
    refine J_perm (ws' := (b, .inl (gc G 0, mc2 mc, .inl (fun _ => 0))) :: hdW G h r n mc S) List.perm_append_comm ?_
    refine J_astore_n hC [(3, .ref b), (2, .int (nI f9)), (0, .ref (h 0)), (1, .int t)] dX11_remembers_27 rfl (by decide) rfl ?_
    refine J_iconst (v := 0) hC dX11_remembers_28 rfl ?_
    refine J_istore hC [(4, .int 0), (3, .ref b), (2, .int (nI f9)), (0, .ref (h 0)), (1, .int t)] dX11_remembers_29 (by decide) rfl ?_
    have key : ∀ (m k : Nat) (g : Nat → Int32), mc2 mc - k < m → k ≤ mc2 mc - 1 → (∀ j, j < k → g j = S 15 (j + f9)) → J x G ((b, .inl (gc G 0, mc2 mc, .inl g)) :: hdW G h r n mc S) (0 + 1) (0 + mc2 mc) [(4, .int (nI k)), (3, .ref b), (2, .int (nI f9)), (0, .ref (h 0)), (1, .int t)] [] 31 := by
      intro m
      induction m with
      | zero => exact fun _ _ h => absurd h (Nat.not_lt_zero _)
      | succ m ih =>
        intro k g hm hk hg
        refine J_iload hC dX11_remembers_31 0 rfl ?_
        refine J_aload_n hC dX11_remembers_33 1 rfl rfl ?_
        refine J_alen hC dX11_remembers_34 0 rfl (t := 0) rfl ?_
        refine J_iconst (v := 1) hC dX11_remembers_35 rfl ?_
        refine J_isub (v := nI (mc2 mc - 1)) hC dX11_remembers_36 (pk_sub (a := mc2 mc) (b := 1) hm2.2.1) ?_
        refine J_ic_geN (a := k) (b := mc2 mc - 1) (tgt := 59) hC dX11_remembers_37 (by decide) (by omega) (by omega) (fun c1 => ?_) (fun c1 => ?_)
        · refine J_aload_n hC dX11_remembers_59 1 rfl rfl ?_
          refine J_aload_n hC dX11_remembers_60 1 rfl rfl ?_
          refine J_alen hC dX11_remembers_61 0 rfl (t := 0) rfl ?_
          refine J_iconst (v := 1) hC dX11_remembers_62 rfl ?_
          refine J_isub (v := nI (mc2 mc - 1)) hC dX11_remembers_63 (pk_sub (a := mc2 mc) (b := 1) hm2.2.1) ?_
          refine J_iload_n hC dX11_remembers_64 4 rfl rfl ?_
          refine J_iast (ws' := ((b, .inl (gc G 0, mc2 mc, .inl (upd g (mc2 mc - 1) t))) :: hdW G h r n mc S)) hC dX11_remembers_65 0 rfl (by omega) (by omega) rfl ?_
          refine J_aload_n hC dX11_remembers_66 3 rfl rfl ?_
          refine J_aload_n hC dX11_remembers_67 1 rfl rfl ?_
          refine J_put (ws' := (b, .inl (gc G 0, mc2 mc, .inl (upd g (mc2 mc - 1) t))) :: (h 0, .inr (11, hdO (hup h 10 b) S)) :: (hdW G h r n mc S).tail) hC wu_X11 rfl tyX11_ok nmX11 dX11_remembers_68 1 9 (by decide) wf_X11_39 rfl rfl (Nat.le_of_ble_eq_true rfl) rfl rfl rfl ?_
          refine J_aload_n hC dX11_remembers_71 3 rfl rfl ?_
          refine J_dup hC dX11_remembers_72 rfl ?_
          refine J_get (v := .int (S 16 3)) hC wu_X11 rfl dX11_remembers_73 1 14 (by decide) wf_X11_67 rfl rfl ?_
          refine J_iconst (v := 1) hC dX11_remembers_76 rfl ?_
          refine J_iadd (v := S 16 3 + 1) hC dX11_remembers_77 rfl ?_
          refine J_put (ws' := (b, .inl (gc G 0, mc2 mc, .inl (upd g (mc2 mc - 1) t))) :: (h 0, .inr (11, hdO (hup h 10 b) (us S 16 3 (S 16 3 + 1)))) :: (hdW G h r n mc S).tail) hC wu_X11 rfl tyX11_ok nmX11 dX11_remembers_78 1 14 (by decide) wf_X11_67 rfl rfl (Nat.le_of_ble_eq_true rfl) rfl rfl rfl ?_
          refine J_sub (ws' := hdW G (hup h 10 b) r n (mc2 mc) (ur (us S 16 3 (S 16 3 + 1)) 15 (upd g (mc2 mc - 1) t))) [(h 10, .inl (gc G 0, mc, .inl (S 15)))] (pm_book (((h 0, .inr (11, hdO (hup h 10 b) (us S 16 3 (S 16 3 + 1)))) :: ((hdF G h r n mc S).tail.take 9))) (rwW G r n S) _ _) ?_
          refine J_hd (S' := s_memT S t mc) ⟨fun _ _ => ⟨rfl, rfl, rfl, rfl⟩, fun _ _ => ⟨rfl, rfl, rfl, rfl⟩, fun j hj => ?_, fun _ _ => ⟨rfl, rfl, rfl, rfl, rfl⟩, rfl, rfl, rfl, rfl, rfl, rfl⟩ ?_
          · show upd g (mc2 mc - 1) t j = (if j = mc2 mc - 1 then t else S 15 (j + (if mc = 10 then 1 else 0)))
            unfold upd
            by_cases hj1 : j = mc2 mc - 1
            · rw [if_pos hj1, if_pos hj1]
            · rw [if_neg hj1, if_neg hj1, ← hf9]; exact hg j (by omega)
          exact J_vret hC hR dX11_remembers_81 b trivial rfl (by decide) (by show 0 + mc2 mc ≤ 10; omega)
        · refine J_aload_n hC dX11_remembers_40 1 rfl rfl ?_
          refine J_iload hC dX11_remembers_41 0 rfl ?_
          refine J_aload_n hC dX11_remembers_43 3 rfl rfl ?_
          refine J_get (v := .ref (h 10)) hC wu_X11 rfl dX11_remembers_44 1 9 (by decide) wf_X11_39 rfl rfl ?_
          refine J_iload hC dX11_remembers_47 0 rfl ?_
          refine J_iload_n hC dX11_remembers_49 2 rfl rfl ?_
          refine J_iadd (v := nI (k + f9)) hC dX11_remembers_50 (nI_add k f9) ?_
          refine J_iald (i := k + f9) (v := S 15 (k + f9)) hC dX11_remembers_51 11 rfl (by omega) (by omega) rfl ?_
          refine J_iast (ws' := ((b, .inl (gc G 0, mc2 mc, .inl (upd g k (S 15 (k + f9))))) :: hdW G h r n mc S)) hC dX11_remembers_52 0 rfl (by omega) (by omega) rfl ?_
          refine J_iinc hC [(4, .int (nI (k + 1))), (3, .ref b), (2, .int (nI f9)), (0, .ref (h 0)), (1, .int t)] dX11_remembers_53 0 rfl (nI_inc _) (by decide) rfl ?_
          refine J_goto (tgt := 31) hC dX11_remembers_56 (by decide) ?_
          refine ih (k + 1) (upd g k (S 15 (k + f9))) (by omega) (by omega) (fun j hj => ?_)
          by_cases hjk : j = k
          · subst hjk; exact pk_us
          · rw [pk_un hjk]; exact hg j (by omega)
    exact key _ 0 _ (Nat.lt_succ_self _) (Nat.zero_le _) (fun j hj => absurd hj (Nat.not_lt_zero _))
  refine J_ic_neN (a := mc) (b := 10) (tgt := 14) hC dX11_remembers_7 (by decide) (by omega) (by decide) (fun c1 => ?_) (fun c1 => ?_)
  · obtain rfl : f9 = 0 := by rw [hf9, if_neg c1]
    refine J_iconst (v := 0) hC dX11_remembers_14 rfl ?_
    exact p15
  · obtain rfl : f9 = 1 := by rw [hf9, if_pos c1]
    refine J_iconst (v := 1) hC dX11_remembers_10 rfl ?_
    refine J_goto (tgt := 15) hC dX11_remembers_11 (by decide) ?_
    exact p15

theorem pm_sum {α : Type} {R R' : List α} (h : R.Perm R') (e : α → Nat) : (R.map e).sum = (R'.map e).sum := by
  haveI : DecidableEq α := Classical.typeDecidableEq α
  exact (h.map e).sum_nat
theorem pm_wo {α : Type} (A R R' : List α) (b g c row : α) (h : R.Perm (row :: R')) : ((b :: g :: R) ++ (A ++ [c])).Perm ((A ++ b :: c :: R') ++ [row, g]) := by
  refine permS (fun e => ?_)
  have h1 := pm_sum h e
  simp only [List.map_append, List.map_cons, List.map_nil, List.sum_append, List.sum_cons, List.sum_nil] at h1 ⊢
  omega
theorem pm_in {α : Type} (A R : List α) (g c : α) : ((A ++ [g, c]) ++ R).Perm ((g :: R) ++ (A ++ [c])) := by
  refine permS (fun e => ?_)
  simp only [List.map_append, List.map_cons, List.map_nil, List.sum_append, List.sum_cons, List.sum_nil]
  omega
theorem pm_wi {α : Type} (A R : List α) (b g c row : α) : ((g :: row :: R) ++ (A ++ [c])).Perm (A ++ g :: c :: R ++ [row]) := by
  refine permS (fun e => ?_)
  simp only [List.map_append, List.map_cons, List.map_nil, List.sum_append, List.sum_cons, List.sum_nil]
  omega
theorem range_sk (n k : Nat) (hk : k < n) : (List.range n).Perm (k :: (List.range (n - 1)).map (fun j => if j < k then j else j + 1)) := by
  obtain ⟨m, rfl⟩ : ∃ m, n = k + 1 + m := ⟨n - k - 1, by omega⟩
  have r1 : List.range (k + 1 + m) = List.range (k + 1) ++ (List.range m).map (fun j => k + 1 + j) := List.range_add
  have r2 : List.range (k + m) = List.range k ++ (List.range m).map (fun j => k + j) := List.range_add
  have r3 : List.range (k + 1) = List.range k ++ [k] := List.range_succ
  rw [show k + 1 + m - 1 = k + m by omega, r1, r2, r3, List.map_append]
  have e1 : (List.range k).map (fun j => if j < k then j else j + 1) = List.range k := by
    refine (List.map_congr_left fun j hj => if_pos (List.mem_range.mp hj)).trans (List.map_id' _)
  have e2 : ((List.range m).map (fun j => k + j)).map (fun j => if j < k then j else j + 1) = (List.range m).map (fun j => k + 1 + j) := by
    rw [List.map_map]
    refine List.map_congr_left fun j _ => ?_
    show (if k + j < k then k + j else k + j + 1) = k + 1 + j
    rw [if_neg (by omega)]; omega
  rw [e1, e2, List.append_assoc]
  exact List.perm_middle
theorem rem_row (S : CT) (k n j rr : Nat) (hk : k < n) (hj : j < n - 1) (hr : 10 ≤ rr) (hr2 : rr ≤ 14) : s_remove S k (k + 1) n rr j = S rr (if j < k then j else j + 1) := by
  have h0 : s_remove S k (k + 1) n rr = va_cpy (S rr) (S rr) (k + 1) k (n - (k + 1)) := by
    have h9 : rr = 10 ∨ rr = 11 ∨ rr = 12 ∨ rr = 13 ∨ rr = 14 := by omega
    rcases h9 with rfl | rfl | rfl | rfl | rfl <;> rfl
  rw [h0]
  by_cases h : j < k
  · rw [pk_cpy_out (Or.inl h), if_pos h]
  · rw [pk_cpy_in (by omega) (by omega), if_neg h]
    congr 1
    omega
theorem rwf_rem (S : CT) (k n j i : Nat) (hk : k < n) (hj : j < n - 1) : rwf (s_remove S k (k + 1) n) j i = rwf S (if j < k then j else j + 1) i := by
  unfold rwf
  rw [rem_row S k n j 10 hk hj (by decide) (by decide), rem_row S k n j 11 hk hj (by decide) (by decide), rem_row S k n j 12 hk hj (by decide) (by decide), rem_row S k n j 13 hk hj (by decide) (by decide), rem_row S k n j 14 hk hj (by decide) (by decide)]
theorem rw_split (G : gT) (r : Nat → Nat) (n k : Nat) (S : CT) (hk : k < n) : (rwW G r n S).Perm ((r k, .inl (gc G 0, 5, .inl (rwf S k))) :: rwW G (rsk r k) (n - 1) (s_remove S k (k + 1) n)) := by
  refine ((range_sk n k hk).map (fun k => ((r k, .inl (gc G 0, 5, .inl (rwf S k))) : Nat × va_E))).trans ?_
  rw [List.map_cons, List.map_map]
  refine List.Perm.cons _ (List.Perm.of_eq ?_)
  refine List.map_congr_left fun j hj => ?_
  have hj' := List.mem_range.mp hj
  show (r (if j < k then j else j + 1), _) = (rsk r k j, _)
  have e : rwf (s_remove S k (k + 1) n) j = rwf S (if j < k then j else j + 1) := funext fun i => rwf_rem S k n j i hk hj'
  rw [e]
  rfl
theorem hd_gb {G : gT} {h r : Nat → Nat} {n mc : Nat} {S : CT} {V : va_W} {e : Nat × va_E} : (hdW G h r n mc S ++ e :: V)[11 + n]? = some e := by
  have hl : (hdW G h r n mc S).length = 11 + n := by
    show ((hdF G h r n mc S) ++ (List.range n).map _).length = _
    rw [List.length_append, List.length_map, List.length_range]
    rfl
  rw [List.getElem?_append_right (by omega), hl, Nat.sub_self]
  rfl
theorem in_vg {n : Nat} (h : n < 3) : nI n = nI n := rfl
theorem HV.bc {n mc : Nat} {S : CT} (hS : HV n mc S) : bcO S = n := by rw [bcO, hS.1.1]; exact nI_clamp (by have := hS.1.2; omega)
theorem HV.mc {n mc : Nat} {S : CT} (hS : HV n mc S) : mcO S = mc := by rw [mcO, hS.2.1.1]; exact nI_clamp (by have := hS.2.1.2; omega)
theorem HV.vc {n mc : Nat} {S : CT} (hS : HV n mc S) : vcO S = 3 := by rw [vcO, hS.2.2.1.1]; exact nI_clamp (by decide)
theorem HV.fc {n mc : Nat} {S : CT} (hS : HV n mc S) : fcO S = 2 := by rw [fcO, hS.2.2.1.2]; exact nI_clamp (by decide)
theorem HV.sum {n mc : Nat} {S : CT} (hS : HV n mc S) : (1 : Int32) ≤ s_sumO S := by
  obtain ⟨p0, t0, o0, a1, a2, a3, a4, a5, a6, a7⟩ := hS.vil (k := 0) (by decide)
  obtain ⟨p1, t1, o1, b1, b2, b3, b4, b5, b6, b7⟩ := hS.vil (k := 1) (by decide)
  obtain ⟨p2, t2, o2, c1, c2, c3, c4, c5, c6, c7⟩ := hS.vil (k := 2) (by decide)
  have h := hS.2.2.2.2.2.1
  have e : s_sumO S = nI (o0 + o1 + o2) := by rw [s_sumO, a7, b7, c7, nI_add, nI_add]
  rw [e] at h ⊢
  have h9 : ¬ o0 + o1 + o2 = 0 := fun h8 => h (by rw [h8]; rfl)
  exact nI_le (a := 1) (by omega) (by omega)
theorem wfv_eq {n mc : Nat} {S : CT} (hS : HV n mc S) (sd : Int32) : imod sd (S 8 0 + S 8 1 + S 8 2) = s_wfv S sd := by rw [s_wfv, if_pos hS.sum]; rfl
theorem rem_16 (T : CT) (k n j : Nat) (hj : j ≠ 12) : s_remove T k (k + 1) n 16 j = T 16 j := by
  show upd (T 16) 12 _ j = _
  exact pk_un hj
theorem nDv {a d : Nat} (ha : a < 2 ^ 31) (h0 : 0 < d) (hd : d < 2 ^ 31) : nI a / nI d = nI (a / d) := pk_div (by omega) (by omega) (by omega)
theorem nMd {a d : Nat} (ha : a < 2 ^ 31) (h0 : 0 < d) (hd : d < 2 ^ 31) : nI a - nI a / nI d * nI d = nI (a % d) := by
  rw [nDv ha h0 hd, pk_mul, pk_sub (Nat.div_mul_le_self a d)]
  congr 1
  have := Nat.div_add_mod a d
  rw [Nat.mul_comm] at this
  omega
theorem nI_ij {a b : Nat} (ha : a < 2 ^ 31) (hb : b < 2 ^ 31) (h : nI a = nI b) : a = b := by
  have h9 := congrArg Int32.toInt h
  rw [nI_toInt ha, nI_toInt hb] at h9
  omega
/-! PURE: what the Hand's walks still owe -/
theorem clamp_lo {x : Int32} (h : x ≤ 100) : clampT x = if 0 < x then x else 0 := by
  unfold clampT
  by_cases h0 : 0 < x
  · rw [if_pos (Int32.le_of_lt h0), if_pos h, if_pos h0]
  · rw [if_neg h0]
    by_cases h1 : 0 ≤ x
    · rw [if_pos h1, if_pos h]
      exact Int32.le_antisymm (Int32.not_lt.mp h0) h1
    · rw [if_neg h1]
theorem clamp_hi {x : Int32} (h : 0 ≤ x) : clampT x = if x < 100 then x else 100 := by
  unfold clampT
  rw [if_pos h]
  by_cases h0 : x < 100
  · rw [if_pos (Int32.le_of_lt h0), if_pos h0]
  · rw [if_neg h0]
    by_cases h1 : x ≤ 100
    · rw [if_pos h1]
      exact Int32.le_antisymm h1 (Int32.not_lt.mp h0)
    · rw [if_neg h1]
theorem clamp_nI (x : Int32) : ∃ t, t ≤ 100 ∧ clampT x = nI t := by
  unfold clampT
  split
  · next h =>
    split
    · next h1 =>
      obtain ⟨j, hj, rfl⟩ := nI_of (Int32.not_lt.mpr h)
      refine ⟨j, ?_, rfl⟩
      have h9 := Int32.le_iff_toInt_le.mp h1
      rw [nI_toInt hj] at h9
      have : ((100 : Int32)).toInt = 100 := rfl
      omega
    · exact ⟨100, by omega, rfl⟩
  · exact ⟨0, by omega, rfl⟩
theorem sub_le100 {t c : Nat} (ht : t ≤ 100) (hc : c ≤ 100) : nI t - nI c ≤ 100 := by
  rw [Int32.le_iff_toInt_le, pk_sub_toInt (by omega) (by omega)]
  have : ((100 : Int32)).toInt = 100 := rfl
  omega
theorem tr_up {t : Nat} (ht : t ≤ 100) : clampT (nI t + 5) = if nI t + 5 < 100 then nI t + 5 else 100 := clamp_hi (by rw [show (5 : Int32) = nI 5 from rfl, nI_add]; exact nI_le (a := 0) (by omega) (by omega))
theorem tr_dn {t : Nat} (ht : t ≤ 100) {c : Nat} (hc : c ≤ 100) : clampT (nI t + -nI c) = if 0 < nI t - nI c then nI t - nI c else 0 := by
  rw [← Int32.sub_eq_add_neg]
  exact clamp_lo (sub_le100 ht hc)
theorem seed_nI {sd : Nat} (h : sd < 1024) : s_seed (nI sd) = nI ((29 * sd + 11) % 1024) := by
  unfold s_seed imod
  rw [show (29 : Int32) = nI 29 from rfl, pk_mul, show (11 : Int32) = nI 11 from rfl, nI_add]
  exact nMd (by omega) (by decide) (by decide)
theorem draw_hv {n mc : Nat} {S : CT} (hS : HV n mc S) : HV n mc (s_draw S) := by
  obtain ⟨h1, h2, h3, h4, h5, h6, h7, ⟨sd, hsd, h8⟩, h9⟩ := hS
  exact ⟨h1, h2, h3, h4, h5, h6, h7, ⟨(29 * sd + 11) % 1024, Nat.mod_lt _ (by decide), by show s_seed (S 16 11) = _; rw [h8]; exact seed_nI hsd⟩, h9⟩
theorem HV.trust {n mc vg : Nat} {S : CT} (hS : HV n mc S) (hvg : vg < 3) {w : Int32} (hw : ∃ t, t ≤ 100 ∧ w = nI t) : HV n mc (us S 2 vg w) := by
  obtain ⟨h1, h2, h3, h4, h5, h6, h7, h8, h9⟩ := hS
  refine ⟨h1, h2, h3, h4, fun k hk => ?_, h6, h7, h8, h9⟩
  obtain ⟨p, t, o, a1, a2, a3, a4, a5, a6, a7⟩ := h5 k hk
  obtain ⟨t9, ht9, rfl⟩ := hw
  by_cases hkv : k = vg
  · subst hkv
    exact ⟨p, t9, o, a1, a2, ht9, a4, a5, if_pos rfl, a7⟩
  · exact ⟨p, t, o, a1, a2, a3, a4, a5, (if_neg hkv : upd (S 2) vg (nI t9) k = S 2 k).trans a6, a7⟩
theorem rem_n {n k : Nat} (hk : k < n) (X : CT) : s_remove X k (k + 1) n 16 12 = nI (n - 1) := by
  have e : k + (n - (k + 1)) = n - 1 := by omega
  show nI (k + (n - (k + 1))) = _
  rw [e]
theorem HV.rem {n mc k : Nat} {S : CT} (hS : HV n mc S) (hk : k < n) : HV (n - 1) mc (s_remove S k (k + 1) n) := by
  obtain ⟨h1, h2, h3, h4, h5, h6, h7, h8, h9⟩ := hS
  refine ⟨⟨rem_n hk S, by omega⟩, h2, h3, fun j hj => ?_, h5, h6, h7, h8, h9⟩
  rw [rem_row S k n j 10 hk hj (by decide) (by decide), rem_row S k n j 13 hk hj (by decide) (by decide)]
  exact h4 _ (by split <;> omega)
section JUDGE
variable {n mc k vg w9 : Nat} {T : CT}
theorem pl_k (hT : HV n mc T) (hk : k < n) (e : s_placeOf T (nI vg) (T 16 0) n = nI k) : ¬ s_placeOf T (nI vg) (T 16 0) n = -1 ∧ (s_placeOf T (nI vg) (T 16 0) n).toNatClampNeg = k := by
  have hn := hT.1.2
  rw [e]
  exact ⟨nI_ne_m1 (by omega), nI_clamp (by omega)⟩
theorem chg_us (X : CT) (hvg : vg < 3) (ch : Int32) : s_chg X (nI vg) ch 3 = us X 2 vg (clampT (X 2 vg + ch)) := by
  unfold s_chg
  rw [if_pos (in3 hvg), nI_clamp (by omega)]
theorem judge_hit (hT : HV n mc T) (hk : k < n) (hvg : vg < 3) (e : s_placeOf T (nI vg) (T 16 0) n = nI k) (c1 : T 12 k = nI w9) : s_judge T vg w9 n 3 mc = s_remove (us (us (us T 16 2 (T 16 2 + 1)) 2 vg (clampT (T 2 vg + 5))) 16 6 (T 16 6 + T 13 k)) k (k + 1) n := by
  obtain ⟨p1, p2⟩ := pl_k hT hk e
  rw [s_judge, if_neg p1, p2, s_judgeMid, if_pos c1, chg_us _ hvg, s_judgeEnd]
  rfl
theorem judge_miss (hT : HV n mc T) (hk : k < n) (hvg : vg < 3) (e : s_placeOf T (nI vg) (T 16 0) n = nI k) (c1 : ¬ T 12 k = nI w9) : s_judge T vg w9 n 3 mc = s_judgeEnd (us (s_payBack (s_memAdd (us T 16 3 (T 16 3 + 1)) (nI vg) (T 16 0) mc) (if w9 = 2 then T 14 k + 10 else T 14 k / 2)) 2 vg (clampT (T 2 vg + (if w9 = 2 then -20 else -10)))) k n := by
  obtain ⟨p1, p2⟩ := pl_k hT hk e
  rw [s_judge, if_neg p1, p2, s_judgeMid, if_neg c1, chg_us _ hvg]
  have e2 : (s_payBack (s_memAdd (us T 16 3 (T 16 3 + 1)) (nI vg) (T 16 0) mc) (if w9 = 2 then T 14 k + 10 else T 14 k / 2)) 2 = T 2 := by
    unfold s_memAdd
    split <;> rfl
  rw [e2]
theorem he_hit (hT : HV n mc T) (hk : k < n) (hvg : vg < 3) (e : s_placeOf T (nI vg) (T 16 0) n = nI k) (c1 : T 12 k = nI w9) : HE (n - 1) mc (us (us (s_remove T k (k + 1) n) 16 2 (T 16 2 + 1)) 2 vg (if T 2 vg + 5 < 100 then T 2 vg + 5 else 100)) (s_judge T vg w9 n 3 mc) := by
  rw [judge_hit hT hk hvg e c1]
  obtain ⟨p, t, o, a1, a2, a3, a4, a5, a6, a7⟩ := hT.vil hvg
  have ec : (if T 2 vg + 5 < 100 then T 2 vg + 5 else 100) = clampT (T 2 vg + 5) := by rw [a6]; exact (tr_up a3).symm
  rw [ec]
  exact ⟨fun j hj => ⟨rfl, rfl, rfl, rfl⟩, fun j hj => ⟨rfl, rfl, rfl, rfl⟩, fun j _ => rfl, fun j _ => ⟨rfl, rfl, rfl, rfl, rfl⟩, rfl, rfl, rfl, rfl, rfl, rfl⟩
theorem bc_hit (hT : HV n mc T) (hk : k < n) (hvg : vg < 3) (e : s_placeOf T (nI vg) (T 16 0) n = nI k) (c1 : T 12 k = nI w9) : bcO (s_judge T vg w9 n 3 mc) = n - 1 := by
  rw [judge_hit hT hk hvg e c1, bcO, rem_n hk]
  exact nI_clamp (by have := hT.1.2; omega)
theorem mc_hit (hT : HV n mc T) (hk : k < n) (hvg : vg < 3) (e : s_placeOf T (nI vg) (T 16 0) n = nI k) (c1 : T 12 k = nI w9) : mcO (s_judge T vg w9 n 3 mc) = mc := by
  rw [judge_hit hT hk hvg e c1]
  exact hT.mc
theorem bc_miss (hT : HV n mc T) (hk : k < n) (hvg : vg < 3) (e : s_placeOf T (nI vg) (T 16 0) n = nI k) (c1 : ¬ T 12 k = nI w9) : bcO (s_judge T vg w9 n 3 mc) = n - 1 := by
  rw [judge_miss hT hk hvg e c1, s_judgeEnd, bcO, rem_n hk]
  exact nI_clamp (by have := hT.1.2; omega)
theorem mem_13 (X : CT) (v d : Int32) (hmc : mc ≤ 10) : s_memAdd X v d mc 16 13 = nI (mc2 mc) := by
  rw [s_memAdd_13 _ _ _ _ hmc, mc2]
  congr 1
  split <;> omega
theorem mc_miss (hT : HV n mc T) (hk : k < n) (hvg : vg < 3) (e : s_placeOf T (nI vg) (T 16 0) n = nI k) (c1 : ¬ T 12 k = nI w9) : mcO (s_judge T vg w9 n 3 mc) = mc2 mc := by
  rw [judge_miss hT hk hvg e c1]
  have hm := hT.2.1.2
  have h9 := (mc2_le hm).1
  show (s_memAdd (us T 16 3 (T 16 3 + 1)) (nI vg) (T 16 0) mc 16 13).toNatClampNeg = _
  rw [mem_13 _ _ _ hm]
  exact nI_clamp (by omega)
theorem mem_15 (X : CT) (v d : Int32) (hmc : mc ≤ 10) {j : Nat} (hj : j < mc2 mc) : s_memAdd X v d mc 15 j = if j = mc2 mc - 1 then s_label v d else X 15 (j + (if mc = 10 then 1 else 0)) := by
  unfold mc2 at hj ⊢
  by_cases h : mc = 10
  · subst h
    rw [if_pos rfl] at hj ⊢
    rw [if_pos rfl]
    show upd (va_cpy (X 15) (X 15) 1 0 9) 9 (s_label v d) j = _
    by_cases h9 : j = 9
    · subst h9; rfl
    · rw [if_neg h9]
      show (if j = 9 then _ else va_cpy (X 15) (X 15) 1 0 9 j) = _
      rw [if_neg h9]
      show (if 0 ≤ j ∧ j < 0 + 9 then X 15 (1 + (j - 0)) else X 15 j) = _
      rw [if_pos ⟨by omega, by omega⟩]
      congr 1
      omega
  · rw [if_neg h] at hj ⊢
    rw [if_neg h, s_memAdd, if_neg (by omega)]
    show upd (X 15) mc (s_label v d) j = _
    by_cases h9 : j = mc
    · subst h9
      rw [if_pos (by omega)]
      exact if_pos rfl
    · rw [if_neg (by omega)]
      exact if_neg h9
theorem mem_k (X : CT) (v d : Int32) (r : Nat) (hr : r ≠ 15) (hr2 : r ≠ 16) : s_memAdd X v d mc r = X r := by
  unfold s_memAdd
  split <;> (show (if r = 16 then _ else _) = _; rw [if_neg hr2]; show (if r = 15 then _ else _) = _; rw [if_neg hr]) <;> first | rfl | (show (if r = 16 then _ else _) = _; rw [if_neg hr2]; show (if r = 15 then _ else _) = _; rw [if_neg hr])
theorem he_missg (hT : HV n mc T) (hk : k < n) (hvg : vg < 3) (e : s_placeOf T (nI vg) (T 16 0) n = nI k) (c1 : ¬ T 12 k = nI w9) {r x2 : Int32} (hr : (if w9 = 2 then T 14 k + 10 else T 14 k / 2) = r) (hx : clampT (T 2 vg + (if w9 = 2 then -20 else -10)) = x2) : HE (n - 1) (mc2 mc) (us (us (s_memT (s_remove T k (k + 1) n) (10 * T 16 0 + nI vg) mc) 16 1 (T 16 1 - r)) 2 vg x2) (s_judge T vg w9 n 3 mc) := by
  rw [judge_miss hT hk hvg e c1, hr, hx]
  have hm := hT.2.1.2
  obtain ⟨M, hM⟩ : ∃ M, M = s_memAdd (us T 16 3 (T 16 3 + 1)) (nI vg) (T 16 0) mc := ⟨_, rfl⟩
  have mk : ∀ r, r ≠ 15 → r ≠ 16 → M r = T r := fun r h1 h2 => by
    rw [hM, mem_k _ _ _ _ h1 h2]
    show (if r = 16 then _ else _) = _
    rw [if_neg h2]
  have m16 : ∀ j, j ≠ 13 → M 16 j = (us T 16 3 (T 16 3 + 1)) 16 j := fun j hj => by rw [hM]; exact s_memAdd_16 _ _ _ _ _ hj
  have m15 : ∀ j, j < mc2 mc → M 15 j = if j = mc2 mc - 1 then s_label (nI vg) (T 16 0) else T 15 (j + (if mc = 10 then 1 else 0)) := fun j hj => by rw [hM]; exact mem_15 _ _ _ hm hj
  rw [← hM]
  refine ⟨fun j hj => ⟨?_, ?_, ?_, ?_⟩, fun j hj => ⟨?_, ?_, ?_, ?_⟩, fun j hj => ?_, fun j _ => ⟨?_, ?_, ?_, ?_, ?_⟩, ?_, ?_, ?_, ?_, ?_, ?_⟩
  · show T 1 j = M 1 j; rw [mk 1 (by decide) (by decide)]
  · show upd (T 2) vg x2 j = upd (M 2) vg x2 j; rw [mk 2 (by decide) (by decide)]
  · show T 8 j = M 8 j; rw [mk 8 (by decide) (by decide)]
  · show T 9 j = M 9 j; rw [mk 9 (by decide) (by decide)]
  · show T 4 j = M 4 j; rw [mk 4 (by decide) (by decide)]
  · show T 5 j = M 5 j; rw [mk 5 (by decide) (by decide)]
  · show T 6 j = M 6 j; rw [mk 6 (by decide) (by decide)]
  · show T 7 j = M 7 j; rw [mk 7 (by decide) (by decide)]
  · show (if j = mc2 mc - 1 then 10 * T 16 0 + nI vg else T 15 (j + (if mc = 10 then 1 else 0))) = M 15 j
    rw [m15 j hj]
    rfl
  · show va_cpy (T 10) (T 10) (k + 1) k (n - (k + 1)) j = va_cpy (M 10) (M 10) (k + 1) k (n - (k + 1)) j; rw [mk 10 (by decide) (by decide)]
  · show va_cpy (T 11) (T 11) (k + 1) k (n - (k + 1)) j = va_cpy (M 11) (M 11) (k + 1) k (n - (k + 1)) j; rw [mk 11 (by decide) (by decide)]
  · show va_cpy (T 12) (T 12) (k + 1) k (n - (k + 1)) j = va_cpy (M 12) (M 12) (k + 1) k (n - (k + 1)) j; rw [mk 12 (by decide) (by decide)]
  · show va_cpy (T 13) (T 13) (k + 1) k (n - (k + 1)) j = va_cpy (M 13) (M 13) (k + 1) k (n - (k + 1)) j; rw [mk 13 (by decide) (by decide)]
  · show va_cpy (T 14) (T 14) (k + 1) k (n - (k + 1)) j = va_cpy (M 14) (M 14) (k + 1) k (n - (k + 1)) j; rw [mk 14 (by decide) (by decide)]
  · show T 16 11 = M 16 11; rw [m16 11 (by decide)]; rfl
  · show T 16 0 = M 16 0; rw [m16 0 (by decide)]; rfl
  · show T 16 1 - r = M 16 1 - r; rw [m16 1 (by decide)]; rfl
  · show T 16 2 = M 16 2; rw [m16 2 (by decide)]; rfl
  · show T 16 3 + 1 = M 16 3; rw [m16 3 (by decide)]; rfl
  · show T 16 4 = M 16 4; rw [m16 4 (by decide)]; rfl
theorem he_miss1 (hT : HV n mc T) (hk : k < n) (hvg : vg < 3) (e : s_placeOf T (nI vg) (T 16 0) n = nI k) (c1 : ¬ T 12 k = nI w9) (c2 : ¬ w9 = 2) : HE (n - 1) (mc2 mc) (us (us (s_memT (s_remove T k (k + 1) n) (10 * T 16 0 + nI vg) mc) 16 1 (T 16 1 - T 14 k / 2)) 2 vg (if 0 < T 2 vg - 10 then T 2 vg - 10 else 0)) (s_judge T vg w9 n 3 mc) := by
  obtain ⟨p, t, o, a1, a2, a3, a4, a5, a6, a7⟩ := hT.vil hvg
  exact he_missg hT hk hvg e c1 (if_neg c2) (by rw [if_neg c2, a6]; exact tr_dn (c := 10) a3 (by decide))
theorem he_miss2 (hT : HV n mc T) (hk : k < n) (hvg : vg < 3) (e : s_placeOf T (nI vg) (T 16 0) n = nI k) (c1 : ¬ T 12 k = nI w9) (c2 : w9 = 2) : HE (n - 1) (mc2 mc) (us (us (s_memT (s_remove T k (k + 1) n) (10 * T 16 0 + nI vg) mc) 16 1 (T 16 1 - (T 14 k + 10))) 2 vg (if 0 < T 2 vg - 20 then T 2 vg - 20 else 0)) (s_judge T vg w9 n 3 mc) := by
  obtain ⟨p, t, o, a1, a2, a3, a4, a5, a6, a7⟩ := hT.vil hvg
  exact he_missg hT hk hvg e c1 (if_pos c2) (by rw [if_pos c2, a6]; exact tr_dn (c := 20) a3 (by decide))
/-- a judged village's contents keep the invariant -/
theorem judge_hv (hT : HV n mc T) (hvg : vg < 3) (hw : w9 < 3) : HV (bcO (s_judge T vg w9 n 3 mc)) (mcO (s_judge T vg w9 n 3 mc)) (s_judge T vg w9 n 3 mc) := by
  have hn := hT.1.2
  rcases placeOf_cases T (nI vg) (T 16 0) n with e | ⟨k, hk, e, -, -⟩
  · have h9 : s_judge T vg w9 n 3 mc = T := if_pos e
    rw [h9, hT.bc, hT.mc]
    exact hT
  · by_cases c1 : T 12 k = nI w9
    · rw [bc_hit hT hk hvg e c1, mc_hit hT hk hvg e c1, judge_hit hT hk hvg e c1]
      have h1 : HV n mc (us T 16 2 (T 16 2 + 1)) := hT
      have h2 := h1.trust hvg (clamp_nI (T 2 vg + 5))
      have h3 : HV n mc (us (us (us T 16 2 (T 16 2 + 1)) 2 vg (clampT (T 2 vg + 5))) 16 6 (T 16 6 + T 13 k)) := h2
      exact h3.rem hk
    · have hm := hT.2.1.2
      rw [bc_miss hT hk hvg e c1, mc_miss hT hk hvg e c1, judge_miss hT hk hvg e c1, s_judgeEnd]
      refine HV.rem ?_ hk
      have mk : ∀ r, r ≠ 15 → r ≠ 16 → s_memAdd (us T 16 3 (T 16 3 + 1)) (nI vg) (T 16 0) mc r = T r := fun r h1 h2 => by
        rw [mem_k _ _ _ _ h1 h2]
        show (if r = 16 then _ else _) = _
        rw [if_neg h2]
      have m16 : ∀ j, j ≠ 13 → s_memAdd (us T 16 3 (T 16 3 + 1)) (nI vg) (T 16 0) mc 16 j = (us T 16 3 (T 16 3 + 1)) 16 j := fun j hj => s_memAdd_16 _ _ _ _ _ hj
      have m13 := mem_13 (mc := mc) (us T 16 3 (T 16 3 + 1)) (nI vg) (T 16 0) hm
      obtain ⟨M, hM⟩ : ∃ M, M = s_memAdd (us T 16 3 (T 16 3 + 1)) (nI vg) (T 16 0) mc := ⟨_, rfl⟩
      rw [← hM] at mk m16 m13 ⊢
      obtain ⟨h1, h2, h3, h4, h5, h6, h7, h8, h9⟩ := hT
      have hMV : HV n (mc2 mc) M := ⟨⟨by rw [m16 12 (by decide)]; exact h1.1, h1.2⟩, ⟨m13, (mc2_le hm).1⟩, ⟨by rw [m16 9 (by decide)]; exact h3.1, by rw [m16 10 (by decide)]; exact h3.2⟩, by rw [mk 10 (by decide) (by decide), mk 13 (by decide) (by decide)]; exact h4, by rw [mk 1 (by decide) (by decide), mk 2 (by decide) (by decide), mk 8 (by decide) (by decide)]; exact h5, by rw [s_sumO, mk 8 (by decide) (by decide)]; exact h6, by rw [mk 4 (by decide) (by decide), mk 5 (by decide) (by decide), mk 6 (by decide) (by decide)]; exact h7, by rw [m16 11 (by decide)]; exact h8, by rw [m16 0 (by decide)]; exact h9⟩
      obtain ⟨r, hr⟩ : ∃ r, r = (if w9 = 2 then T 14 k + 10 else T 14 k / 2) := ⟨_, rfl⟩
      rw [← hr]
      have hP : HV n (mc2 mc) (s_payBack M r) := hMV
      have hQ := hP.trust hvg (clamp_nI (T 2 vg + (if w9 = 2 then -20 else -10)))
      exact hQ
end JUDGE
theorem vil_hv {n mc vg : Nat} {T : CT} (hT : HV n mc T) (hv : vg < 3) : HV (bcO (s_vilB vg T)) (mcO (s_vilB vg T)) (s_vilB vg T) := by
  have h := judge_hv (draw_hv hT) hv (s_drawW_lt T)
  rw [s_vilB, hT.bc, hT.vc, hT.mc]
  exact h
theorem sellAt_hv {n mc f : Nat} {T : CT} (hT : HV n mc T) (hf : f < 2) : HV n mc (s_sellAt T f n 3) := by
  obtain ⟨w, pe, so, a1, a2, a3, a5, a6, a7, a8⟩ := hT.2.2.2.2.2.2.1 f hf
  have g : ∀ m i (p : CT × Int32), i + m = n → HV n mc p.1 → (∃ l9, l9 ≤ 40 ∧ p.2 = nI l9) → HV n mc (fo (s_sellB (T 4 f) f 3) i m p).1 := by
    intro m
    induction m with
    | zero => exact fun _ _ _ h _ => h
    | succ m ih =>
      intro i p hi hp hl
      obtain ⟨l9, hl9, el⟩ := hl
      refine ih (i + 1) _ (by omega) ?_ ?_
      · unfold s_sellB
        split
        · split
          · exact hp
          · next h1 _ => exact (sell_hv hp h1 (by omega) hl9 el).1
        · exact hp
      · unfold s_sellB
        split
        · split
          · exact ⟨l9, hl9, el⟩
          · next h1 _ => exact (sell_hv (pr := 0) hp h1 (by omega) hl9 el).2
        · exact ⟨l9, hl9, el⟩
  exact g n 0 (T, T 6 f) (by omega) hT ⟨so, a5, a8⟩
theorem day_unf {n mc : Nat} {S : CT} (hS : HV n mc (us S 16 0 (S 16 0 + 1))) : s_day S = s_dayY (s_vilB 2 (s_vilB 1 (s_vilB 0 (s_fairB 1 (s_fairB 0 (us S 16 0 (S 16 0 + 1))))))) := by
  have hF : ∀ f T n mc, f < 2 → HV n mc T → HV n mc (s_fairB f T) := fun f T n mc hf hT => by
    unfold s_fairB
    split
    · rw [hT.bc, hT.vc]; exact sellAt_hv hT hf
    · exact hT
  obtain ⟨X, hX⟩ : ∃ X, X = us S 16 0 (S 16 0 + 1) := ⟨_, rfl⟩
  rw [s_day, ← hX]
  rw [← hX] at hS
  have h1 : s_dayF X = s_fairB 1 (s_fairB 0 X) := by rw [s_dayF, hS.fc]; rfl
  have h2 : HV n mc (s_fairB 1 (s_fairB 0 X)) := hF 1 _ _ _ (by decide) (hF 0 _ _ _ (by decide) hS)
  rw [h1, s_dayV, h2.vc]
  rfl
set_option maxHeartbeats 4000000 in
set_option maxRecDepth 100000 in
theorem c_X11_weather (l : Launch) (G : gT) (h r : Nat → Nat) (n mc vg : Nat) (S : CT) (hvg : vg < 3) (hS : HV n mc S) : MV l yX11_weather cX11_weather 6 { frames := 1, cells := 2, slots := 40, locals := 60 } [.ref (h 0), .int (nI vg)] G (hdW G h r n mc S) (fun (u : (Nat → Nat) × (Nat → Nat)) => u.1 0 = h 0) (fun u => hdW G u.1 u.2 (bcO (s_vilB vg S)) (mcO (s_vilB vg S)) (s_vilB vg S)) := by
  refine jm_v (own := RX11) (by decide) rfl (Nat.le_of_ble_eq_true rfl) (fun x hl hC hR hN => ?_)
  subst hl
  refine J_aload_n hC dX11_weather_0 0 rfl rfl ?_
  refine J_bipush (v := 29) hC dX11_weather_1 rfl ?_
  refine J_aload_n hC dX11_weather_3 0 rfl rfl ?_
  refine J_get (v := .int (S 16 11)) hC wu_X11 rfl dX11_weather_4 0 10 (by decide) wf_X11_48 rfl rfl ?_
  refine J_imul (v := 29 * S 16 11) hC dX11_weather_7 rfl ?_
  refine J_bipush (v := 11) hC dX11_weather_8 rfl ?_
  refine J_iadd (v := 29 * S 16 11 + 11) hC dX11_weather_10 rfl ?_
  refine J_sipush (v := 1024) hC dX11_weather_11 rfl ?_
  refine J_irem (v := s_seed (S 16 11)) hC dX11_weather_14 (by decide) rfl ?_
  refine J_put (ws' := hdW G h r n mc (us S 16 11 (s_seed (S 16 11)))) hC wu_X11 rfl tyX11_ok nmX11 dX11_weather_15 0 10 (by decide) wf_X11_48 rfl rfl (Nat.le_of_ble_eq_true rfl) rfl rfl rfl ?_
  refine J_aload_n hC dX11_weather_18 0 rfl rfl ?_
  refine J_get (v := .int ((us S 16 11 (s_seed (S 16 11))) 16 11)) hC wu_X11 rfl dX11_weather_19 0 10 (by decide) wf_X11_48 rfl rfl ?_
  refine J_aload_n hC dX11_weather_22 0 rfl rfl ?_
  refine J_get (v := .ref (h 3)) hC wu_X11 rfl dX11_weather_23 0 2 (by decide) wf_X11_16 rfl rfl ?_
  refine J_iconst (v := 0) hC dX11_weather_26 rfl ?_
  refine J_iald (i := 0) (v := S 8 0) hC dX11_weather_27 3 rfl (by decide) (by decide) rfl ?_
  refine J_aload_n hC dX11_weather_28 0 rfl rfl ?_
  refine J_get (v := .ref (h 3)) hC wu_X11 rfl dX11_weather_29 0 2 (by decide) wf_X11_16 rfl rfl ?_
  refine J_iconst (v := 1) hC dX11_weather_32 rfl ?_
  refine J_iald (i := 1) (v := S 8 1) hC dX11_weather_33 3 rfl (by decide) (by decide) rfl ?_
  refine J_iadd (v := S 8 0 + S 8 1) hC dX11_weather_34 rfl ?_
  refine J_aload_n hC dX11_weather_35 0 rfl rfl ?_
  refine J_get (v := .ref (h 3)) hC wu_X11 rfl dX11_weather_36 0 2 (by decide) wf_X11_16 rfl rfl ?_
  refine J_iconst (v := 2) hC dX11_weather_39 rfl ?_
  refine J_iald (i := 2) (v := S 8 2) hC dX11_weather_40 3 rfl (by decide) (by decide) rfl ?_
  refine J_iadd (v := S 8 0 + S 8 1 + S 8 2) hC dX11_weather_41 rfl ?_
  refine J_irem (v := s_wfv S (s_seed (S 16 11))) hC dX11_weather_42 hS.2.2.2.2.2.1 (wfv_eq hS _) ?_
  refine J_istore_n hC [(2, .int (s_wfv S (s_seed (S 16 11)))), (0, .ref (h 0)), (1, .int (nI vg))] dX11_weather_43 rfl (by decide) rfl ?_
  refine J_iload_n hC dX11_weather_44 0 rfl rfl ?_
  refine J_aload_n hC dX11_weather_45 1 rfl rfl ?_
  refine J_get (v := .ref (h 3)) hC wu_X11 rfl dX11_weather_46 0 2 (by decide) wf_X11_16 rfl rfl ?_
  refine J_iconst (v := 0) hC dX11_weather_49 rfl ?_
  refine J_iald (i := 0) (v := S 8 0) hC dX11_weather_50 3 rfl (by decide) (by decide) rfl ?_
  have p80 : ∀ w9 : Nat, w9 = s_drawW S → J x G (hdW G h r n mc (us S 16 11 (s_seed (S 16 11)))) 0 0 [(2, .int (s_wfv S (s_seed (S 16 11)))), (0, .ref (h 0)), (1, .int (nI vg))] [.int (nI w9)] 80 := by
    intro w9 hw9
    have hw3 : w9 < 3 := by rw [hw9]; exact s_drawW_lt S
    refine J_istore_n hC [(3, .int (nI w9)), (2, .int (s_wfv S (s_seed (S 16 11)))), (0, .ref (h 0)), (1, .int (nI vg))] dX11_weather_80 rfl (by decide) rfl ?_
    refine J_aload_n hC dX11_weather_81 2 rfl rfl ?_
    refine J_get (v := .ref (h 4)) hC wu_X11 rfl dX11_weather_82 0 3 (by decide) wf_X11_19 rfl rfl ?_
    refine J_iload_n hC dX11_weather_85 0 rfl rfl ?_
    refine J_dup2 hC dX11_weather_86 rfl rfl ?_
    refine J_iald (i := w9) (v := S 9 w9) hC dX11_weather_87 4 rfl hw3 (by decide) rfl ?_
    refine J_iconst (v := 1) hC dX11_weather_88 rfl ?_
    refine J_iadd (v := S 9 w9 + 1) hC dX11_weather_89 rfl ?_
    refine J_iast (i := w9) (ws' := hdW G h r n mc (s_draw S)) hC dX11_weather_90 4 rfl hw3 (by decide) (by rw [s_draw, ← hw9]; rfl) ?_
    have hT := draw_hv hS
    have hX : s_vilB vg S = s_judge (s_draw S) vg w9 n 3 mc := by rw [s_vilB, hS.bc, hS.vc, hS.mc, hw9]
    obtain ⟨T, hTd⟩ : ∃ z, z = s_draw S := ⟨_, rfl⟩
    rw [← hTd] at hT hX ⊢
    refine J_aload_n hC dX11_weather_91 2 rfl rfl ?_
    refine J_iload_n hC dX11_weather_92 3 rfl rfl ?_
    refine J_aload_n hC dX11_weather_93 2 rfl rfl ?_
    refine J_get (v := .int (T 16 0)) hC wu_X11 rfl dX11_weather_94 0 11 (by decide) wf_X11_70 rfl rfl ?_
    refine J_callVi hC dX11_weather_97 wl_X11_85 yi_X11_find (c_X11_find _ G h r n mc T (nI vg) (T 16 0) hT.1.2) rfl rfl 0 11 rfl rfl ⟨Nat.le_of_ble_eq_true rfl, Nat.le_of_ble_eq_true rfl⟩ (Nat.le_of_ble_eq_true rfl) (Nat.le_of_ble_eq_true rfl) (Nat.le_of_ble_eq_true rfl) (fun q9 u9 hq9 => ?_)
    rcases placeOf_cases T (nI vg) (T 16 0) n with e | ⟨k, hk, e, ek1, ek2⟩
    · rw [e] at hq9; subst hq9
      refine J_istore hC [(4, .int (-1)), (3, .int (nI w9)), (2, .int (s_wfv S (s_seed (S 16 11)))), (0, .ref (h 0)), (1, .int (nI vg))] dX11_weather_100 (by decide) rfl ?_
      refine J_iload hC dX11_weather_102 0 rfl ?_
      refine J_if_ge (tgt := 108) hC dX11_weather_104 (by decide) (fun c => absurd c (by decide)) (fun _ => ?_)
      have hX2 : s_vilB vg S = T := by rw [hX, s_judge, if_pos e]
      exact J_vret hC hR dX11_weather_107 (h, r) rfl (by rw [hX2, hT.bc, hT.mc]) (by decide) (by decide)
    · rw [e] at hq9; subst hq9
      have hn := hT.1.2
      refine J_istore hC [(4, .int (nI k)), (3, .int (nI w9)), (2, .int (s_wfv S (s_seed (S 16 11)))), (0, .ref (h 0)), (1, .int (nI vg))] dX11_weather_100 (by decide) rfl ?_
      refine J_iload hC dX11_weather_102 0 rfl ?_
      refine J_if_geN (a := k) (tgt := 108) hC dX11_weather_104 (by decide) (by omega) ?_
      refine J_aload_n hC dX11_weather_108 3 rfl rfl ?_
      refine J_get (v := .ref (h 9)) hC wu_X11 rfl dX11_weather_109 0 8 (by decide) wf_X11_35 rfl rfl ?_
      refine J_iload hC dX11_weather_112 0 rfl ?_
      refine J_gald (b := r k) (i := k) hC dX11_weather_114 9 rfl hk (by omega) rfl ?_
      refine J_astore hC [(5, .ref (r k)), (4, .int (nI k)), (3, .int (nI w9)), (2, .int (s_wfv S (s_seed (S 16 11)))), (0, .ref (h 0)), (1, .int (nI vg))] dX11_weather_115 (by decide) rfl ?_
      refine J_aload_n hC dX11_weather_117 4 rfl rfl ?_
      refine J_aload_n hC dX11_weather_118 4 rfl rfl ?_
      refine J_get (v := .ref (h 9)) hC wu_X11 rfl dX11_weather_119 0 8 (by decide) wf_X11_35 rfl rfl ?_
      refine J_iload hC dX11_weather_122 1 rfl ?_
      have hD : ∃ D, D = s_remove T k (k + 1) n := ⟨_, rfl⟩
      obtain ⟨D, hD⟩ := hD
      refine J_callSa hC dX11_weather_124 wl_X11_88 wi_X11 yi_X11_without ((fr_a (W1 := fun b => (h 0, .inr (11, hdO h T)) :: (hdW G (hup h 9 b) (rsk r k) (n - 1) mc D).tail ++ [(r k, .inl (gc G 0, 5, .inl (rwf T k))), (h 9, .inl (gc G 4, n, .inr (.inr (.inr (.inr (fun k => some (r k)))))))]) (wr := (hdF G h r n mc T).take 9 ++ [((h 10, .inl (gc G 0, mc, .inl (T 15))) : Nat × va_E)]) (c_X11_without _ G (h 9) n k r T hn hk) (pm_in ((hdF G h r n mc T).take 9) (rwW G r n T) (h 9, .inl (gc G 4, n, .inr (.inr (.inr (.inr (fun k => some (r k))))))) (h 10, .inl (gc G 0, mc, .inl (T 15)))) (fun b => by rw [hD]; exact pm_wo ((hdF G h r n mc T).take 9) (rwW G r n T) (rwW G (rsk r k) (n - 1) (s_remove T k (k + 1) n)) _ _ _ _ (rw_split G r n k T hk)))) rfl rfl ⟨Nat.le_of_ble_eq_true rfl, Nat.le_of_ble_eq_true rfl⟩ (Nat.le_of_ble_eq_true rfl) (Nat.le_of_ble_eq_true rfl) (Nat.le_of_ble_eq_true rfl) (fun b hb9 => ?_)
      refine J_put (ws' := hdW G (hup h 9 b) (rsk r k) (n - 1) mc D ++ [(r k, .inl (gc G 0, 5, .inl (rwf T k))), (h 9, .inl (gc G 4, n, .inr (.inr (.inr (.inr (fun k => some (r k)))))))]) hC wu_X11 rfl tyX11_ok nmX11 dX11_weather_127 0 8 (by decide) wf_X11_35 rfl rfl (Nat.le_of_ble_eq_true rfl) rfl rfl (by rw [hD]; rfl) ?_
      refine J_aload hC dX11_weather_130 0 rfl ?_
      refine J_iconst (v := 2) hC dX11_weather_132 rfl ?_
      refine J_iald (i := 2) (v := T 12 k) hC dX11_weather_133 (11 + (n - 1)) hd_gb (by decide) (by decide) rfl ?_
      refine J_iload_n hC dX11_weather_134 2 rfl rfl ?_
      refine J_ic_ne (tgt := 168) hC dX11_weather_135 (by decide) (fun c1 => ?_) (fun c1 => ?_)
      · obtain ⟨p9, t9, o9, g1, g2, g3, g4, g5, g6, g7⟩ := hT.vil hvg
        have hd16 : ∀ j, j ≠ 12 → D 16 j = T 16 j := fun j hj => by rw [hD]; exact rem_16 T k n j hj
        have hd2 : D 2 = T 2 := by rw [hD]; rfl
        refine J_aload_n hC dX11_weather_168 4 rfl rfl ?_
        refine J_bipush (v := 10) hC dX11_weather_169 rfl ?_
        refine J_aload_n hC dX11_weather_171 4 rfl rfl ?_
        refine J_get (v := .int (D 16 0)) hC wu_X11 rfl dX11_weather_172 0 11 (by decide) wf_X11_70 rfl rfl ?_
        rw [hd16 0 (by decide)]
        refine J_imul (v := 10 * T 16 0) hC dX11_weather_175 rfl ?_
        refine J_iload_n hC dX11_weather_176 5 rfl rfl ?_
        refine J_iadd (v := 10 * T 16 0 + nI vg) hC dX11_weather_177 rfl ?_
        refine J_callVv hC dX11_weather_178 wl_X11_95 yi_X11_remembers (app_v [(r k, .inl (gc G 0, 5, .inl (rwf T k))), (h 9, .inl (gc G 4, n, .inr (.inr (.inr (.inr (fun k => some (r k)))))))] (c_X11_remembers _ G (hup h 9 b) (rsk r k) (n - 1) mc D (10 * T 16 0 + nI vg) hT.2.1.2)) rfl rfl 0 11 rfl rfl ⟨Nat.le_of_ble_eq_true rfl, Nat.le_of_ble_eq_true rfl⟩ (Nat.le_of_ble_eq_true rfl) (Nat.le_of_ble_eq_true rfl) (Nat.le_of_ble_eq_true rfl) (fun b2 hb8 => ?_)
        obtain ⟨Y, hY⟩ : ∃ z, z = s_memT D (10 * T 16 0 + nI vg) mc := ⟨_, rfl⟩
        rw [← hY]
        have hy1 : Y 16 1 = T 16 1 := by rw [hY]; exact hd16 1 (by decide)
        have hy2 : Y 2 = T 2 := by rw [hY]; exact hd2
        refine J_aload_n hC dX11_weather_181 4 rfl rfl ?_
        refine J_dup hC dX11_weather_182 rfl ?_
        refine J_get (v := .int (Y 16 1)) hC wu_X11 rfl dX11_weather_183 0 12 (by decide) wf_X11_82 rfl rfl ?_
        rw [hy1]
        refine J_iload_n hC dX11_weather_186 2 rfl rfl ?_
        refine J_iconst (v := 2) hC dX11_weather_187 rfl ?_
        refine J_ic_neN (a := w9) (b := 2) (tgt := 201) hC dX11_weather_188 (by decide) (by omega) (by decide) (fun c2 => ?_) (fun c2 => ?_)
        · refine J_aload hC dX11_weather_201 0 rfl ?_
          refine J_iconst (v := 4) hC dX11_weather_203 rfl ?_
          refine J_iald (i := 4) (v := T 14 k) hC dX11_weather_204 (11 + (n - 1)) hd_gb (by decide) (by decide) rfl ?_
          refine J_iconst (v := 2) hC dX11_weather_205 rfl ?_
          refine J_idiv (v := T 14 k / 2) hC dX11_weather_206 (by decide) rfl ?_
          refine J_isub (v := T 16 1 - (T 14 k / 2)) hC dX11_weather_207 rfl ?_
          refine J_put (ws' := hdW G (hup (hup h 9 b) 10 b2) (rsk r k) (n - 1) (mc2 mc) (us Y 16 1 (T 16 1 - (T 14 k / 2))) ++ [(r k, .inl (gc G 0, 5, .inl (rwf T k))), (h 9, .inl (gc G 4, n, .inr (.inr (.inr (.inr (fun k => some (r k)))))))]) hC wu_X11 rfl tyX11_ok nmX11 dX11_weather_208 0 12 (by decide) wf_X11_82 rfl rfl (Nat.le_of_ble_eq_true rfl) rfl rfl rfl ?_
          refine J_aload_n hC dX11_weather_211 4 rfl rfl ?_
          refine J_get (v := .ref (h 2)) hC wu_X11 rfl dX11_weather_212 0 1 (by decide) wf_X11_13 rfl rfl ?_
          refine J_iload_n hC dX11_weather_215 5 rfl rfl ?_
          refine J_iconst (v := 0) hC dX11_weather_216 rfl ?_
          refine J_aload_n hC dX11_weather_217 4 rfl rfl ?_
          refine J_get (v := .ref (h 2)) hC wu_X11 rfl dX11_weather_218 0 1 (by decide) wf_X11_13 rfl rfl ?_
          refine J_iload_n hC dX11_weather_221 5 rfl rfl ?_
          refine J_iald (i := vg) (v := T 2 vg) hC dX11_weather_222 2 rfl hvg (by decide) (by show Y 2 vg = _; rw [hy2]) ?_
          refine J_iload_n hC dX11_weather_223 2 rfl rfl ?_
          refine J_iconst (v := 2) hC dX11_weather_224 rfl ?_
          refine J_ic_neN (a := w9) (b := 2) (tgt := 233) hC dX11_weather_225 (by decide) (by omega) (by decide) (fun c3 => ?_) (fun c3 => absurd c3 c2)
          refine J_bipush (v := 10) hC dX11_weather_233 rfl ?_
          refine J_isub (v := T 2 vg - 10) hC dX11_weather_235 rfl ?_
          refine J_mmax (v := if 0 < T 2 vg - 10 then T 2 vg - 10 else 0) hC dX11_weather_236 wl_X11_73 (Nat.le_of_ble_eq_true rfl) (Nat.le_of_ble_eq_true rfl) (Nat.le_of_ble_eq_true rfl) (Nat.le_of_ble_eq_true rfl) rfl ?_
          refine J_iast (i := vg) (ws' := hdW G (hup (hup h 9 b) 10 b2) (rsk r k) (n - 1) (mc2 mc) (us (us Y 16 1 (T 16 1 - (T 14 k / 2))) 2 vg (if 0 < T 2 vg - 10 then T 2 vg - 10 else 0)) ++ [(r k, .inl (gc G 0, 5, .inl (rwf T k))), (h 9, .inl (gc G 4, n, .inr (.inr (.inr (.inr (fun k => some (r k)))))))]) hC dX11_weather_239 2 rfl hvg (by decide) rfl ?_
          refine J_sub (ws' := hdW G (hup (hup h 9 b) 10 b2) (rsk r k) (n - 1) (mc2 mc) (us (us Y 16 1 (T 16 1 - (T 14 k / 2))) 2 vg (if 0 < T 2 vg - 10 then T 2 vg - 10 else 0))) [(r k, .inl (gc G 0, 5, .inl (rwf T k))), (h 9, .inl (gc G 4, n, .inr (.inr (.inr (.inr (fun k => some (r k)))))))] (List.Perm.refl _) ?_
          refine J_hd (S' := s_vilB vg S) (by rw [hX]; exact by rw [hY, hD]; exact he_miss1 hT hk hvg e c1 c2) ?_
          exact J_vret hC hR dX11_weather_240 ((hup (hup h 9 b) 10 b2), (rsk r k)) rfl (by rw [hX, bc_miss hT hk hvg e c1, mc_miss hT hk hvg e c1]) (by decide) (by decide)
        · refine J_aload hC dX11_weather_191 0 rfl ?_
          refine J_iconst (v := 4) hC dX11_weather_193 rfl ?_
          refine J_iald (i := 4) (v := T 14 k) hC dX11_weather_194 (11 + (n - 1)) hd_gb (by decide) (by decide) rfl ?_
          refine J_bipush (v := 10) hC dX11_weather_195 rfl ?_
          refine J_iadd (v := T 14 k + 10) hC dX11_weather_197 rfl ?_
          refine J_goto (tgt := 207) hC dX11_weather_198 (by decide) ?_
          refine J_isub (v := T 16 1 - (T 14 k + 10)) hC dX11_weather_207 rfl ?_
          refine J_put (ws' := hdW G (hup (hup h 9 b) 10 b2) (rsk r k) (n - 1) (mc2 mc) (us Y 16 1 (T 16 1 - (T 14 k + 10))) ++ [(r k, .inl (gc G 0, 5, .inl (rwf T k))), (h 9, .inl (gc G 4, n, .inr (.inr (.inr (.inr (fun k => some (r k)))))))]) hC wu_X11 rfl tyX11_ok nmX11 dX11_weather_208 0 12 (by decide) wf_X11_82 rfl rfl (Nat.le_of_ble_eq_true rfl) rfl rfl rfl ?_
          refine J_aload_n hC dX11_weather_211 4 rfl rfl ?_
          refine J_get (v := .ref (h 2)) hC wu_X11 rfl dX11_weather_212 0 1 (by decide) wf_X11_13 rfl rfl ?_
          refine J_iload_n hC dX11_weather_215 5 rfl rfl ?_
          refine J_iconst (v := 0) hC dX11_weather_216 rfl ?_
          refine J_aload_n hC dX11_weather_217 4 rfl rfl ?_
          refine J_get (v := .ref (h 2)) hC wu_X11 rfl dX11_weather_218 0 1 (by decide) wf_X11_13 rfl rfl ?_
          refine J_iload_n hC dX11_weather_221 5 rfl rfl ?_
          refine J_iald (i := vg) (v := T 2 vg) hC dX11_weather_222 2 rfl hvg (by decide) (by show Y 2 vg = _; rw [hy2]) ?_
          refine J_iload_n hC dX11_weather_223 2 rfl rfl ?_
          refine J_iconst (v := 2) hC dX11_weather_224 rfl ?_
          refine J_ic_neN (a := w9) (b := 2) (tgt := 233) hC dX11_weather_225 (by decide) (by omega) (by decide) (fun c3 => absurd c2 c3) (fun _ => ?_)
          refine J_bipush (v := 20) hC dX11_weather_228 rfl ?_
          refine J_goto (tgt := 235) hC dX11_weather_230 (by decide) ?_
          refine J_isub (v := T 2 vg - 20) hC dX11_weather_235 rfl ?_
          refine J_mmax (v := if 0 < T 2 vg - 20 then T 2 vg - 20 else 0) hC dX11_weather_236 wl_X11_73 (Nat.le_of_ble_eq_true rfl) (Nat.le_of_ble_eq_true rfl) (Nat.le_of_ble_eq_true rfl) (Nat.le_of_ble_eq_true rfl) rfl ?_
          refine J_iast (i := vg) (ws' := hdW G (hup (hup h 9 b) 10 b2) (rsk r k) (n - 1) (mc2 mc) (us (us Y 16 1 (T 16 1 - (T 14 k + 10))) 2 vg (if 0 < T 2 vg - 20 then T 2 vg - 20 else 0)) ++ [(r k, .inl (gc G 0, 5, .inl (rwf T k))), (h 9, .inl (gc G 4, n, .inr (.inr (.inr (.inr (fun k => some (r k)))))))]) hC dX11_weather_239 2 rfl hvg (by decide) rfl ?_
          refine J_sub (ws' := hdW G (hup (hup h 9 b) 10 b2) (rsk r k) (n - 1) (mc2 mc) (us (us Y 16 1 (T 16 1 - (T 14 k + 10))) 2 vg (if 0 < T 2 vg - 20 then T 2 vg - 20 else 0))) [(r k, .inl (gc G 0, 5, .inl (rwf T k))), (h 9, .inl (gc G 4, n, .inr (.inr (.inr (.inr (fun k => some (r k)))))))] (List.Perm.refl _) ?_
          refine J_hd (S' := s_vilB vg S) (by rw [hX]; exact by rw [hY, hD]; exact he_miss2 hT hk hvg e c1 c2) ?_
          exact J_vret hC hR dX11_weather_240 ((hup (hup h 9 b) 10 b2), (rsk r k)) rfl (by rw [hX, bc_miss hT hk hvg e c1, mc_miss hT hk hvg e c1]) (by decide) (by decide)
      · obtain ⟨p9, t9, o9, g1, g2, g3, g4, g5, g6, g7⟩ := hT.vil hvg
        have hd16 : D 16 2 = T 16 2 := by rw [hD]; rfl
        have hd2 : D 2 = T 2 := by rw [hD]; rfl
        refine J_aload_n hC dX11_weather_138 4 rfl rfl ?_
        refine J_dup hC dX11_weather_139 rfl ?_
        refine J_get (v := .int (D 16 2)) hC wu_X11 rfl dX11_weather_140 0 13 (by decide) wf_X11_92 rfl rfl ?_
        rw [hd16]
        refine J_iconst (v := 1) hC dX11_weather_143 rfl ?_
        refine J_iadd (v := T 16 2 + 1) hC dX11_weather_144 rfl ?_
        refine J_put (ws' := hdW G (hup h 9 b) (rsk r k) (n - 1) mc (us D 16 2 (T 16 2 + 1)) ++ [(r k, .inl (gc G 0, 5, .inl (rwf T k))), (h 9, .inl (gc G 4, n, .inr (.inr (.inr (.inr (fun k => some (r k)))))))]) hC wu_X11 rfl tyX11_ok nmX11 dX11_weather_145 0 13 (by decide) wf_X11_92 rfl rfl (Nat.le_of_ble_eq_true rfl) rfl rfl rfl ?_
        refine J_aload_n hC dX11_weather_148 4 rfl rfl ?_
        refine J_get (v := .ref (h 2)) hC wu_X11 rfl dX11_weather_149 0 1 (by decide) wf_X11_13 rfl rfl ?_
        refine J_iload_n hC dX11_weather_152 5 rfl rfl ?_
        refine J_bipush (v := 100) hC dX11_weather_153 rfl ?_
        refine J_aload_n hC dX11_weather_155 4 rfl rfl ?_
        refine J_get (v := .ref (h 2)) hC wu_X11 rfl dX11_weather_156 0 1 (by decide) wf_X11_13 rfl rfl ?_
        refine J_iload_n hC dX11_weather_159 5 rfl rfl ?_
        refine J_iald (i := vg) (v := T 2 vg) hC dX11_weather_160 2 rfl hvg (by decide) (by show D 2 vg = _; rw [hd2]) ?_
        refine J_iconst (v := 5) hC dX11_weather_161 rfl ?_
        refine J_iadd (v := T 2 vg + 5) hC dX11_weather_162 rfl ?_
        refine J_mmin (v := if T 2 vg + 5 < 100 then T 2 vg + 5 else 100) hC dX11_weather_163 wl_X11_79 (Nat.le_of_ble_eq_true rfl) (Nat.le_of_ble_eq_true rfl) (Nat.le_of_ble_eq_true rfl) (Nat.le_of_ble_eq_true rfl) rfl ?_
        refine J_iast (i := vg) (ws' := hdW G (hup h 9 b) (rsk r k) (n - 1) mc (us (us D 16 2 (T 16 2 + 1)) 2 vg (if T 2 vg + 5 < 100 then T 2 vg + 5 else 100)) ++ [(r k, .inl (gc G 0, 5, .inl (rwf T k))), (h 9, .inl (gc G 4, n, .inr (.inr (.inr (.inr (fun k => some (r k)))))))]) hC dX11_weather_166 2 rfl hvg (by decide) rfl ?_
        refine J_sub (ws' := hdW G (hup h 9 b) (rsk r k) (n - 1) mc (us (us D 16 2 (T 16 2 + 1)) 2 vg (if T 2 vg + 5 < 100 then T 2 vg + 5 else 100))) [(r k, .inl (gc G 0, 5, .inl (rwf T k))), (h 9, .inl (gc G 4, n, .inr (.inr (.inr (.inr (fun k => some (r k)))))))] (List.Perm.refl _) ?_
        refine J_hd (S' := s_vilB vg S) (by rw [hX]; exact by rw [hD]; exact he_hit hT hk hvg e c1) ?_
        exact J_vret hC hR dX11_weather_167 ((hup h 9 b), (rsk r k)) rfl (by rw [hX, bc_hit hT hk hvg e c1, mc_hit hT hk hvg e c1]) (by decide) (by decide)
  refine J_ic_ge (tgt := 58) hC dX11_weather_51 (by decide) (fun c1 => ?_) (fun c1 => ?_)
  · refine J_iload_n hC dX11_weather_58 0 rfl rfl ?_
    refine J_aload_n hC dX11_weather_59 1 rfl rfl ?_
    refine J_get (v := .ref (h 3)) hC wu_X11 rfl dX11_weather_60 0 2 (by decide) wf_X11_16 rfl rfl ?_
    refine J_iconst (v := 0) hC dX11_weather_63 rfl ?_
    refine J_iald (i := 0) (v := S 8 0) hC dX11_weather_64 3 rfl (by decide) (by decide) rfl ?_
    refine J_aload_n hC dX11_weather_65 1 rfl rfl ?_
    refine J_get (v := .ref (h 3)) hC wu_X11 rfl dX11_weather_66 0 2 (by decide) wf_X11_16 rfl rfl ?_
    refine J_iconst (v := 1) hC dX11_weather_69 rfl ?_
    refine J_iald (i := 1) (v := S 8 1) hC dX11_weather_70 3 rfl (by decide) (by decide) rfl ?_
    refine J_iadd (v := S 8 0 + S 8 1) hC dX11_weather_71 rfl ?_
    refine J_ic_ge (tgt := 79) hC dX11_weather_72 (by decide) (fun c2 => ?_) (fun c2 => ?_)
    · refine J_iconst (v := 2) hC dX11_weather_79 rfl ?_
      exact p80 2 (by rw [s_drawW, s_wf, if_pos c1, if_pos c2])
    · refine J_iconst (v := 1) hC dX11_weather_75 rfl ?_
      refine J_goto (tgt := 80) hC dX11_weather_76 (by decide) ?_
      exact p80 1 (by rw [s_drawW, s_wf, if_pos c1, if_neg c2])
  · refine J_iconst (v := 0) hC dX11_weather_54 rfl ?_
    refine J_goto (tgt := 80) hC dX11_weather_55 (by decide) ?_
    exact p80 0 (by rw [s_drawW, s_wf, if_neg c1])


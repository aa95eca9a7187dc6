section HS
variable {x : JX} {G : gT} {R : Room} {cc : ByteArray} {w0 : Cond} {own : String} {nL : Nat} {ws : va_W} {k n : Nat} {lv : List (Nat × Value)} {st : List Value} {pc : Nat}
theorem J_aald (hC : JC x G R cc w0 own nL) {a m i r : Nat} {f : Nat → Option Nat} (hd : decode cc pc = .ok (.aaload, 1)) (q : Nat) (hq : ws[q]? = some (a, .inl (gc G 3, m, .inr (.inr (.inr (.inr f)))))) (hi : i < m) (hm : m < 2 ^ 31) (hv : f i = some r) (kk : J x G ws k n lv (.ref r :: st) (pc + 1)) : J x G ws k n lv (.int (nI i) :: .ref a :: st) pc := by
  intro H locs ls hP hD hS hL
  refine va_aldq hC.1 hC.2.1 hC.2.2.2.2.2.1 hP q 3 hq rfl (vp_in_nI hi hm) hd ?_
  rw [nI_clamp (by omega), hv]
  exact kk H locs ls hP hD hS hL
end HS
theorem perm_fm {α β : Type} {l m : List α} (h : l.Perm m) (f : α → List β) : (l.flatMap f).Perm (m.flatMap f) := by
  induction h with
  | nil => exact List.Perm.refl _
  | cons x _ ih => simp only [List.flatMap_cons]; exact ih.append_left _
  | swap x y l => simp only [List.flatMap_cons, ← List.append_assoc]; exact List.perm_append_comm.append_right _
  | trans _ _ a b => exact a.trans b
theorem perm_pk {α : Type} (c1 c2 : α) {H P R : List α} (h : H.Perm (P ++ R)) (Q : List α) : (c1 :: c2 :: (H ++ Q)).Perm ((P ++ Q) ++ (c1 :: c2 :: R)) := by
  have h1 : (H ++ Q).Perm ((P ++ Q) ++ R) := (h.append_right Q).trans (by rw [List.append_assoc, List.append_assoc]; exact List.perm_append_comm.append_left P)
  exact ((h1.cons c2).cons c1).trans (List.perm_middle.trans (List.perm_middle.cons c1)).symm
/-- the eight States of a History -/
def hiS (G : gT) (A : Nat → Nat → Nat) (T : Nat → CT) : va_W := (List.range 8).flatMap (fun i => stW G (A i) (T i))
def hiR (G : gT) (A : Nat → Nat → Nat) (T : Nat → CT) (n : Nat) : va_W := ((List.range 8).filter (fun i => i != n)).flatMap (fun i => stW G (A i) (T i))
def hiF (A : Nat → Nat → Nat) (i : Nat) : Option Nat := if i < 8 then some (A i 0) else none
/-- a History: object h, array r, States A i -/
def hiW (G : gT) (h r : Nat) (A : Nat → Nat → Nat) (n k : Nat) (T : Nat → CT) : va_W := (h, .inr (3, [.ref r, .int (nI n), .int (nI k)])) :: (r, .inl (gc G 3, 8, .inr (.inr (.inr (.inr (hiF A)))))) :: hiS G A T
def updT (T : Nat → CT) (n : Nat) (S : CT) : Nat → CT := fun i => if i = n then S else T i
theorem hi_sel : ∀ n, n < 8 → (List.range 8).Perm (n :: (List.range 8).filter (fun i => i != n)) := by decide
theorem hiS_pick (G : gT) (A : Nat → Nat → Nat) (T : Nat → CT) {n : Nat} (hn : n < 8) : (hiS G A T).Perm (stW G (A n) (T n) ++ hiR G A T n) := by
  have h := perm_fm (hi_sel n hn) (fun i => stW G (A i) (T i))
  rw [List.flatMap_cons] at h
  exact h
theorem fm_eq {α β : Type} {f g : α → List β} : ∀ (l : List α), (∀ i, i ∈ l → f i = g i) → l.flatMap f = l.flatMap g
  | [], _ => rfl
  | a :: l, h => by rw [List.flatMap_cons, List.flatMap_cons, h a List.mem_cons_self, fm_eq l (fun i hi => h i (List.mem_cons_of_mem _ hi))]
theorem hiR_upd (G : gT) (A : Nat → Nat → Nat) (T : Nat → CT) (n : Nat) (S : CT) : hiR G A (updT T n S) n = hiR G A T n :=
  fm_eq _ (fun i hi => by
    have h2 := (List.mem_filter.mp hi).2
    have h3 : ¬ i = n := fun e => by rw [e] at h2; simp at h2
    show stW G (A i) (if i = n then S else T i) = _
    rw [if_neg h3])
theorem hiS_put (G : gT) (A : Nat → Nat → Nat) (T : Nat → CT) (S : CT) {n : Nat} (hn : n < 8) : (hiS G A (updT T n S)).Perm (stW G (A n) S ++ hiR G A T n) := by
  have h := hiS_pick G A (updT T n S) hn
  rw [hiR_upd] at h
  have e : updT T n S n = S := if_pos rfl
  rw [e] at h
  exact h
theorem hiS_at (G : gT) (A : Nat → Nat → Nat) (T : Nat → CT) (Q : va_W) : ∀ n, n < 8 → ∃ fs, (hiS G A T ++ Q)[22 * n]? = some (A n 0, .inr (8, fs))
  | 0, _ => ⟨_, rfl⟩ | 1, _ => ⟨_, rfl⟩ | 2, _ => ⟨_, rfl⟩ | 3, _ => ⟨_, rfl⟩ | 4, _ => ⟨_, rfl⟩ | 5, _ => ⟨_, rfl⟩ | 6, _ => ⟨_, rfl⟩ | 7, _ => ⟨_, rfl⟩
  | n + 8, h => absurd h (by omega)
theorem hiS_len (G : gT) (A : Nat → Nat → Nat) (T : Nat → CT) (Q : va_W) : (hiS G A T ++ Q)[176]? = Q[0]? := rfl
theorem hi_mod : ∀ n, n < 8 → nI (n + 1) - nI (n + 1) / 8 * 8 = nI ((n + 1) % 8) := by decide
theorem hi_mod2 : ∀ n, n < 8 → (nI n + 8 - 1) - (nI n + 8 - 1) / 8 * 8 = nI ((n + 7) % 8) := by decide
theorem nI_sub1 {k : Nat} (h : 0 < k) : nI k - 1 = nI (k - 1) := by
  obtain ⟨m, rfl⟩ : ∃ m, k = m + 1 := ⟨k - 1, by omega⟩
  rw [← nI_1]
  exact Int32.add_sub_cancel _ _
theorem hiF_at (A : Nat → Nat → Nat) {n : Nat} (hn : n < 8) : hiF A n = some (A n 0) := if_pos hn
set_option maxRecDepth 100000 in
set_option maxHeartbeats 4000000 in
theorem c_X3_remember (l : Launch) (G : gT) (h r : Nat) (A : Nat → Nat → Nat) (n k : Nat) (T : Nat → CT) (a : Nat → Nat) (S : CT) (hn : n < 8) (hk : k ≤ 8) : MV l yX3_remember cX3_remember 2 { frames := 3, cells := 0, slots := 0, locals := 74 } [.ref h, .ref (a 0)] G (hiW G h r A n k T ++ stW G a S) (fun (_ : Unit) => True) (fun _ => hiW G h r A ((n + 1) % 8) (min (k + 1) 8) (updT T n S) ++ stW G a S) := by
  refine jm_v (own := RX3) (by decide) rfl (Nat.le_of_ble_eq_true rfl) (fun x hl hC hR hN => ?_)
  subst hl
  refine J_aload_n hC dX3_remember_0 0 rfl rfl ?_
  refine J_get (v := .ref r) hC wu_X3 rfl dX3_remember_1 0 0 (by decide) wf_X3_11 rfl rfl ?_
  refine J_aload_n hC dX3_remember_4 0 rfl rfl ?_
  refine J_get (v := .int (nI n)) hC wu_X3 rfl dX3_remember_5 0 1 (by decide) wf_X3_15 rfl rfl ?_
  refine J_aald hC dX3_remember_8 1 rfl hn (by decide) (hiF_at A hn) ?_
  refine J_aload_n hC dX3_remember_9 1 rfl rfl ?_
  obtain ⟨fs, hfs⟩ := hiS_at G A T (stW G a S) n hn
  refine J_callVv hC dX3_remember_10 wl_X3_23 yi_X8_takeFrom (fr_v (c_X8_takeFrom _ G (A n) a (T n) S) (perm_pk _ _ (hiS_pick G A T hn) (stW G a S)) (fun _ => (perm_pk _ _ (hiS_put G A T S hn) (stW G a S)).symm)) rfl rfl (22 * n + 2) 8 hfs rfl ⟨Nat.le_of_ble_eq_true rfl, Nat.le_of_ble_eq_true rfl⟩ (Nat.le_of_ble_eq_true rfl) (Nat.le_of_ble_eq_true rfl) (Nat.le_of_ble_eq_true rfl) (fun v1 hv1 => ?_)
  refine J_wq (show _ = hiW G h r A n k (updT T n S) ++ stW G a S from rfl) ?_
  refine J_aload_n hC dX3_remember_13 0 rfl rfl ?_
  refine J_aload_n hC dX3_remember_14 0 rfl rfl ?_
  refine J_get (v := .int (nI n)) hC wu_X3 rfl dX3_remember_15 0 1 (by decide) wf_X3_15 rfl rfl ?_
  refine J_iconst (v := 1) hC dX3_remember_18 rfl ?_
  refine J_iadd (v := nI (n + 1)) hC dX3_remember_19 (nI_1 n) ?_
  refine J_bipush (v := 8) hC dX3_remember_20 rfl ?_
  refine J_irem (v := nI ((n + 1) % 8)) hC dX3_remember_22 (by decide) (hi_mod n hn) ?_
  refine J_put (ws' := hiW G h r A ((n + 1) % 8) k (updT T n S) ++ stW G a S) hC wu_X3 rfl tyX3_ok nmX3 dX3_remember_23 0 1 (by decide) wf_X3_15 rfl rfl (Nat.le_of_ble_eq_true rfl) rfl rfl rfl ?_
  refine J_aload_n hC dX3_remember_26 0 rfl rfl ?_
  refine J_get (v := .int (nI k)) hC wu_X3 rfl dX3_remember_27 0 2 (by decide) wf_X3_19 rfl rfl ?_
  refine J_bipush (v := nI 8) hC dX3_remember_30 rfl ?_
  refine J_ic_geN (tgt := 45) hC dX3_remember_32 (by decide) (by omega) (by decide) (fun c => ?_) (fun c => ?_)
  · refine J_vret hC hR dX3_remember_45 () trivial ?_ (by decide) (by decide)
    rw [show min (k + 1) 8 = k by omega]
  · refine J_aload_n hC dX3_remember_35 0 rfl rfl ?_
    refine J_dup hC dX3_remember_36 rfl ?_
    refine J_get (v := .int (nI k)) hC wu_X3 rfl dX3_remember_37 0 2 (by decide) wf_X3_19 rfl rfl ?_
    refine J_iconst (v := 1) hC dX3_remember_40 rfl ?_
    refine J_iadd (v := nI (k + 1)) hC dX3_remember_41 (nI_1 k) ?_
    refine J_put (ws' := hiW G h r A ((n + 1) % 8) (k + 1) (updT T n S) ++ stW G a S) hC wu_X3 rfl tyX3_ok nmX3 dX3_remember_42 0 2 (by decide) wf_X3_19 rfl rfl (Nat.le_of_ble_eq_true rfl) rfl rfl rfl ?_
    refine J_vret hC hR dX3_remember_45 () trivial ?_ (by decide) (by decide)
    rw [show min (k + 1) 8 = k + 1 by omega]

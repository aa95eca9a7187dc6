/-! THE HAND: its world over the contents of a State. h: the addresses of the object (0), its rows (1 to 8), the book (9), the regrets (10); r k: the address of the book's row k -/
def rwf (S : CT) (k : Nat) : Nat → Int32 := fun j => if j = 0 then S 10 k else if j = 1 then S 11 k else if j = 2 then S 12 k else if j = 3 then S 13 k else S 14 k
def rwW (G : gT) (r : Nat → Nat) (n : Nat) (S : CT) : va_W := (List.range n).map fun k => (r k, .inl (gc G 0, 5, .inl (rwf S k)))
def hdO (h : Nat → Nat) (S : CT) : List Value := [.ref (h 1), .ref (h 2), .ref (h 3), .ref (h 4), .ref (h 5), .ref (h 6), .ref (h 7), .ref (h 8), .ref (h 9), .ref (h 10), .int (S 16 11), .int (S 16 0), .int (S 16 1), .int (S 16 2), .int (S 16 3), .int (S 16 4)]
def hdF (G : gT) (h r : Nat → Nat) (n mc : Nat) (S : CT) : va_W := [(h 0, .inr (11, hdO h S)), (h 1, .inl (gc G 0, 3, .inl (S 1))), (h 2, .inl (gc G 0, 3, .inl (S 2))), (h 3, .inl (gc G 0, 3, .inl (S 8))), (h 4, .inl (gc G 0, 3, .inl (S 9))), (h 5, .inl (gc G 0, 2, .inl (S 4))), (h 6, .inl (gc G 0, 2, .inl (S 5))), (h 7, .inl (gc G 0, 2, .inl (S 6))), (h 8, .inl (gc G 0, 2, .inl (S 7))), (h 9, .inl (gc G 4, n, .inr (.inr (.inr (.inr (fun k => some (r k))))))), (h 10, .inl (gc G 0, mc, .inl (S 15)))]
def hdW (G : gT) (h r : Nat → Nat) (n mc : Nat) (S : CT) : va_W := hdF G h r n mc S ++ rwW G r n S
theorem rw_get {G : gT} {r : Nat → Nat} {n k : Nat} {S : CT} (h : k < n) : (rwW G r n S)[k]? = some (r k, .inl (gc G 0, 5, .inl (rwf S k))) := by
  unfold rwW
  rw [List.getElem?_map, List.getElem?_range h]
  rfl
theorem hd_get {G : gT} {h r : Nat → Nat} {n mc k : Nat} {S : CT} (hk : k < n) : (hdW G h r n mc S)[11 + k]? = some (r k, .inl (gc G 0, 5, .inl (rwf S k))) := by
  unfold hdW
  rw [List.getElem?_append_right (by show 11 ≤ 11 + k; omega), show 11 + k - (hdF G h r n mc S).length = k by show 11 + k - 11 = k; omega]
  exact rw_get hk
theorem rwf_3 (S : CT) (k : Nat) (v : Int32) : upd (rwf S k) 3 v = rwf (us S 13 k v) k := by
  funext j
  unfold upd rwf
  by_cases h3 : j = 3
  · subst h3; simp [us, upd]
  · simp [us, h3]
theorem rwf_4 (S : CT) (k j : Nat) (v : Int32) (hj : j < 5) : upd (rwf S k) 4 v j = rwf (us S 14 k v) k j := by
  unfold upd rwf
  by_cases h4 : j = 4
  · subst h4; simp [us, upd]
  · have h0 : j = 0 ∨ j = 1 ∨ j = 2 ∨ j = 3 := by omega
    rcases h0 with rfl | rfl | rfl | rfl <;> simp [us]
theorem rwf_o3 (S : CT) {k k' : Nat} (v : Int32) (hk : k' ≠ k) : rwf (us S 13 k v) k' = rwf S k' := by
  funext j
  unfold rwf
  simp [us, upd, hk]
theorem rwf_o4 (S : CT) {k k' : Nat} (v : Int32) (hk : k' ≠ k) : rwf (us S 14 k v) k' = rwf S k' := by
  funext j
  unfold rwf
  simp [us, upd, hk]
theorem hd_set {G : gT} {h r : Nat → Nat} {n mc k : Nat} {S S' : CT} {e : va_E} (hF : hdF G h r n mc S = hdF G h r n mc S') (hk : k < n) (he : e = .inl (gc G 0, 5, .inl (rwf S' k))) (ho : ∀ k', k' ≠ k → rwf S' k' = rwf S k') : (hdW G h r n mc S).set (11 + k) (r k, e) = hdW G h r n mc S' := by
  subst he
  unfold hdW
  rw [List.set_append_right _ _ (by show 11 ≤ 11 + k; omega), show 11 + k - (hdF G h r n mc S).length = k by show 11 + k - 11 = k; omega, hF]
  congr 1
  unfold rwW
  apply List.ext_getElem?
  intro i
  rw [List.getElem?_set]
  by_cases hi : k = i
  · subst hi
    rw [if_pos rfl, List.length_map, List.length_range, if_pos hk, List.getElem?_map, List.getElem?_range hk]
    rfl
  · rw [if_neg hi, List.getElem?_map, List.getElem?_map]
    by_cases hin : i < n
    · rw [List.getElem?_range hin]
      simp only [Option.map_some, ho i (Ne.symm hi)]
    · rw [List.getElem?_eq_none (by rw [List.length_range]; omega)]
      rfl
theorem hd_set3 {G : gT} {h r : Nat → Nat} {n mc k : Nat} {S : CT} {v : Int32} (hk : k < n) : (hdW G h r n mc S).set (11 + k) (r k, .inl (gc G 0, 5, .inl (upd (rwf S k) 3 v))) = hdW G h r n mc (us S 13 k v) := hd_set rfl hk (by rw [rwf_3]) (fun _ hk' => rwf_o3 S v hk')
/-- contents that the Hand's cells can't tell apart -/
def HE (n mc : Nat) (S S' : CT) : Prop := (∀ j, j < 3 → S 1 j = S' 1 j ∧ S 2 j = S' 2 j ∧ S 8 j = S' 8 j ∧ S 9 j = S' 9 j) ∧ (∀ j, j < 2 → S 4 j = S' 4 j ∧ S 5 j = S' 5 j ∧ S 6 j = S' 6 j ∧ S 7 j = S' 7 j) ∧ (∀ j, j < mc → S 15 j = S' 15 j) ∧ (∀ j, j < n → S 10 j = S' 10 j ∧ S 11 j = S' 11 j ∧ S 12 j = S' 12 j ∧ S 13 j = S' 13 j ∧ S 14 j = S' 14 j) ∧ S 16 11 = S' 16 11 ∧ S 16 0 = S' 16 0 ∧ S 16 1 = S' 16 1 ∧ S 16 2 = S' 16 2 ∧ S 16 3 = S' 16 3 ∧ S 16 4 = S' 16 4
theorem at_arr {D : va_G} {cl : List vw_C} {a n : Nat} {cA : ClassId} {f g : Nat → Int32} {H : Heap} (h : ∀ i, i < n → f i = g i) : va_at D cl (a, .inl (cA, n, .inl f)) H → va_at D cl (a, .inl (cA, n, .inl g)) H := va_at_cong h
theorem wEq_rows {G : gT} {r r' : Nat → Nat} {S S' : CT} : ∀ (l : List Nat), (∀ k ∈ l, r k = r' k ∧ ∀ j, j < 5 → rwf S k j = rwf S' k j) → wEq (l.map fun k => (r k, (.inl (gc G 0, 5, .inl (rwf S k)) : va_E))) (l.map fun k => (r' k, .inl (gc G 0, 5, .inl (rwf S' k))))
  | [], _ => trivial
  | k :: l, h => by
    refine ⟨(h k List.mem_cons_self).1, fun D cl H hp => ?_, wEq_rows l (fun k hk => h k (List.mem_cons_of_mem _ hk))⟩
    obtain ⟨h1, h2⟩ := h k List.mem_cons_self
    have h3 := va_at_cong h2 hp
    rw [h1] at h3
    exact h3
theorem rwf_eq {S S' : CT} {k : Nat} (h : S 10 k = S' 10 k ∧ S 11 k = S' 11 k ∧ S 12 k = S' 12 k ∧ S 13 k = S' 13 k ∧ S 14 k = S' 14 k) (j : Nat) : rwf S k j = rwf S' k j := by
  unfold rwf
  rw [h.1, h.2.1, h.2.2.1, h.2.2.2.1, h.2.2.2.2]
theorem HE.w {G : gT} {h r : Nat → Nat} {n mc : Nat} {S S' : CT} (hE : HE n mc S S') : wEq (hdW G h r n mc S) (hdW G h r n mc S') := by
  obtain ⟨h1, h2, h3, h4, e1, e2, e3, e4, e5, e6⟩ := hE
  refine wEq.app ?_ (wEq_rows _ (fun k hk => ⟨rfl, fun j _ => rwf_eq (h4 k (List.mem_range.mp hk)) j⟩))
  refine ⟨rfl, fun D cl H hp => ?_, rfl, fun D cl H => va_at_cong (fun j hj => (h1 j hj).1), rfl, fun D cl H => va_at_cong (fun j hj => (h1 j hj).2.1), rfl, fun D cl H => va_at_cong (fun j hj => (h1 j hj).2.2.1), rfl, fun D cl H => va_at_cong (fun j hj => (h1 j hj).2.2.2), rfl, fun D cl H => va_at_cong (fun j hj => (h2 j hj).1), rfl, fun D cl H => va_at_cong (fun j hj => (h2 j hj).2.1), rfl, fun D cl H => va_at_cong (fun j hj => (h2 j hj).2.2.1), rfl, fun D cl H => va_at_cong (fun j hj => (h2 j hj).2.2.2), rfl, fun _ _ _ h => h, rfl, fun D cl H => va_at_cong h3, trivial⟩
  have e : hdO h S = hdO h S' := by unfold hdO; rw [e1, e2, e3, e4, e5, e6]
  show va_at D cl (h 0, .inr (11, hdO h S')) H
  rw [← e]
  exact hp
theorem HE.rfl' {n mc : Nat} {S : CT} : HE n mc S S := ⟨fun _ _ => ⟨rfl, rfl, rfl, rfl⟩, fun _ _ => ⟨rfl, rfl, rfl, rfl⟩, fun _ _ => rfl, fun _ _ => ⟨rfl, rfl, rfl, rfl, rfl⟩, rfl, rfl, rfl, rfl, rfl, rfl⟩
theorem J_hd {x : JX} {G : gT} {h r : Nat → Nat} {n mc k nn : Nat} {S S' : CT} {lv : List (Nat × Value)} {st : List Value} {pc : Nat} (hE : HE n mc S S') (kk : J x G (hdW G h r n mc S') k nn lv st pc) : J x G (hdW G h r n mc S) k nn lv st pc := J_wEq hE.w kk
/-- a store into the fifth cell of a row -/
theorem J_hs4 {x : JX} {G : gT} {h r : Nat → Nat} {n mc i k nn : Nat} {S : CT} {v : Int32} {lv : List (Nat × Value)} {st : List Value} {pc : Nat} (hi : i < n) (kk : J x G (hdW G h r n mc (us S 14 i v)) k nn lv st pc) : J x G ((hdW G h r n mc S).set (11 + i) (r i, .inl (gc G 0, 5, .inl (upd (rwf S i) 4 v)))) k nn lv st pc := by
  refine J_cong (q := 11 + i) (a := r i) (cA := gc G 0) (g := rwf (us S 14 i v) i) ?_ (fun j hj => rwf_4 S i j v hj) ?_
  · rw [List.getElem?_set_self (by show 11 + i < (hdF G h r n mc S ++ rwW G r n S).length; rw [List.length_append]; show 11 + i < 11 + ((List.range n).map _).length; rw [List.length_map, List.length_range]; omega)]
  · rw [List.set_set, hd_set (S := S) (S' := us S 14 i v) rfl hi rfl (fun _ hk' => rwf_o4 S v hk')]
    exact kk
/-- the Hand's invariant: all in their ranges -/
def HV (n mc : Nat) (S : CT) : Prop := (S 16 12 = nI n ∧ n ≤ 30) ∧ (S 16 13 = nI mc ∧ mc ≤ 10) ∧ (S 16 9 = nI 3 ∧ S 16 10 = nI 2) ∧ (∀ k, k < n → ∃ v s, v < 3 ∧ s ≤ 99 ∧ S 10 k = nI v ∧ S 13 k = nI s) ∧ (∀ k, k < 3 → ∃ p t o, 1 ≤ p ∧ p ≤ 99 ∧ t ≤ 100 ∧ o ≤ 20 ∧ S 1 k = nI p ∧ S 2 k = nI t ∧ S 8 k = nI o) ∧ ¬ s_sumO S = 0 ∧ (∀ f, f < 2 → ∃ w pe so, w < 3 ∧ 1 ≤ pe ∧ pe ≤ 12 ∧ so ≤ 40 ∧ S 4 f = nI w ∧ S 5 f = nI pe ∧ S 6 f = nI so) ∧ (∃ sd, sd < 1024 ∧ S 16 11 = nI sd) ∧ ∃ dy, dy ≤ 1000 ∧ S 16 0 = nI dy

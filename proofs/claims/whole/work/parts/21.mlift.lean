/-! a row of 242 ints alone; contracts over a row, brought to the whole model -/
def gW (G : gT) (b : Nat) (g : RT) : va_W := [(b, .inl (gc G 0, 242, .inl g))]
/-- two rows: from, to -/
def hW (G : gT) (b1 b2 n1 n2 : Nat) (f h : RT) : va_W := [(b1, .inl (gc G 0, n1, .inl f)), (b2, .inl (gc G 0, n2, .inl h))]
theorem perm_range {α : Type} (l : List α) : (List.range l.length).filterMap (fun i => l[i]?) = l := by
  have : ∀ (k : List α) (pre : List α), (List.range' pre.length k.length).filterMap (fun i => (pre ++ k)[i]?) = k := by
    intro k
    induction k with
    | nil => intro pre; rfl
    | cons a k ih =>
      intro pre
      have h := ih (pre ++ [a])
      rw [List.length_append, List.append_assoc] at h
      simp only [List.length_cons, List.length_nil, List.range'_succ, List.filterMap_cons]
      rw [show (pre ++ a :: k)[pre.length]? = some a by simp]
      exact congrArg (a :: ·) h
  have h := this l []
  rw [List.range_eq_range']
  exact h
theorem perm_idx {α : Type} {l l' : List α} (is : List Nat) (h : is.Perm (List.range l.length)) (e : is.filterMap (fun i => l[i]?) = l') : l.Perm l' := by
  rw [← e]
  have := (h.filterMap (fun i => l[i]?))
  rw [perm_range] at this
  exact this.symm
section MDL
variable {S : Type} {l : Launch} {y : MethodName} {cc : ByteArray} {maxL : Nat} {ret : Option FieldType} {rm : Room} {av : List Value} {G : gT} {m : Nat → Nat} {M : CT}
theorem mdl0_p (G : gT) (m : Nat → Nat) (M : CT) : (mdW G m M).Perm (gW G (m 1) (M 0) ++ ([(m 0, .inr (11, [.ref (m 1), .ref (m 2), .ref (m 3), .ref (m 4), .ref (m 5), .ref (m 6), .int (M 8 0), .int (M 8 1), .int (M 8 2), .ref (m 7), .int (M 8 3), .int (M 8 4), .int (M 8 5), .int (M 8 6), .int (M 8 7), .int (M 8 8), .int (M 8 9), .int (M 8 10), .ref (m 8), .int (M 8 11)])), (m 2, .inl (gc G 0, 242, .inl (M 1))), (m 3, .inl (gc G 0, 242, .inl (M 2))), (m 4, .inl (gc G 0, 1936, .inl (M 3))), (m 5, .inl (gc G 0, 484, .inl (M 4))), (m 6, .inl (gc G 2, 2, .inl (M 5))), (m 7, .inl (gc G 0, 600, .inl (M 6))), (m 8, .inl (gc G 1, 80, .inl (M 7)))] : va_W)) := perm_idx [1, 0, 2, 3, 4, 5, 6, 7, 8] (show List.Perm [1, 0, 2, 3, 4, 5, 6, 7, 8] (List.range 9) by decide) rfl
theorem mdl0_q (G : gT) (m : Nat → Nat) (M : CT) (f : RT) : (gW G (m 1) f ++ ([(m 0, .inr (11, [.ref (m 1), .ref (m 2), .ref (m 3), .ref (m 4), .ref (m 5), .ref (m 6), .int (M 8 0), .int (M 8 1), .int (M 8 2), .ref (m 7), .int (M 8 3), .int (M 8 4), .int (M 8 5), .int (M 8 6), .int (M 8 7), .int (M 8 8), .int (M 8 9), .int (M 8 10), .ref (m 8), .int (M 8 11)])), (m 2, .inl (gc G 0, 242, .inl (M 1))), (m 3, .inl (gc G 0, 242, .inl (M 2))), (m 4, .inl (gc G 0, 1936, .inl (M 3))), (m 5, .inl (gc G 0, 484, .inl (M 4))), (m 6, .inl (gc G 2, 2, .inl (M 5))), (m 7, .inl (gc G 0, 600, .inl (M 6))), (m 8, .inl (gc G 1, 80, .inl (M 7)))] : va_W)).Perm (mdW G m (ur M 0 f)) := (mdl0_p G m (ur M 0 f)).symm
theorem mdl0_i {post : Int32 → S → Prop} {F : S → RT} (hM : MI l y cc maxL ret rm av G (gW G (m 1) (M 0)) post (fun u => gW G (m 1) (F u))) : MI l y cc maxL ret rm av G (mdW G m M) post (fun u => mdW G m (ur M 0 (F u))) := fr_i hM (mdl0_p G m M) (fun u => mdl0_q G m M (F u))
theorem mdl0_ir {post : Int32 → S → Prop} (hM : MI l y cc maxL ret rm av G (gW G (m 1) (M 0)) post (fun _ => gW G (m 1) (M 0))) : MI l y cc maxL ret rm av G (mdW G m M) post (fun _ => mdW G m M) := fr_i hM (mdl0_p G m M) (fun _ => (mdl0_p G m M).symm)
theorem mdl0_v {post : S → Prop} {F : S → RT} (hM : MV l y cc maxL rm av G (gW G (m 1) (M 0)) post (fun u => gW G (m 1) (F u))) : MV l y cc maxL rm av G (mdW G m M) post (fun u => mdW G m (ur M 0 (F u))) := fr_v hM (mdl0_p G m M) (fun u => mdl0_q G m M (F u))
theorem mdl1_p (G : gT) (m : Nat → Nat) (M : CT) : (mdW G m M).Perm (gW G (m 2) (M 1) ++ ([(m 0, .inr (11, [.ref (m 1), .ref (m 2), .ref (m 3), .ref (m 4), .ref (m 5), .ref (m 6), .int (M 8 0), .int (M 8 1), .int (M 8 2), .ref (m 7), .int (M 8 3), .int (M 8 4), .int (M 8 5), .int (M 8 6), .int (M 8 7), .int (M 8 8), .int (M 8 9), .int (M 8 10), .ref (m 8), .int (M 8 11)])), (m 1, .inl (gc G 0, 242, .inl (M 0))), (m 3, .inl (gc G 0, 242, .inl (M 2))), (m 4, .inl (gc G 0, 1936, .inl (M 3))), (m 5, .inl (gc G 0, 484, .inl (M 4))), (m 6, .inl (gc G 2, 2, .inl (M 5))), (m 7, .inl (gc G 0, 600, .inl (M 6))), (m 8, .inl (gc G 1, 80, .inl (M 7)))] : va_W)) := perm_idx [2, 0, 1, 3, 4, 5, 6, 7, 8] (show List.Perm [2, 0, 1, 3, 4, 5, 6, 7, 8] (List.range 9) by decide) rfl
theorem mdl1_q (G : gT) (m : Nat → Nat) (M : CT) (f : RT) : (gW G (m 2) f ++ ([(m 0, .inr (11, [.ref (m 1), .ref (m 2), .ref (m 3), .ref (m 4), .ref (m 5), .ref (m 6), .int (M 8 0), .int (M 8 1), .int (M 8 2), .ref (m 7), .int (M 8 3), .int (M 8 4), .int (M 8 5), .int (M 8 6), .int (M 8 7), .int (M 8 8), .int (M 8 9), .int (M 8 10), .ref (m 8), .int (M 8 11)])), (m 1, .inl (gc G 0, 242, .inl (M 0))), (m 3, .inl (gc G 0, 242, .inl (M 2))), (m 4, .inl (gc G 0, 1936, .inl (M 3))), (m 5, .inl (gc G 0, 484, .inl (M 4))), (m 6, .inl (gc G 2, 2, .inl (M 5))), (m 7, .inl (gc G 0, 600, .inl (M 6))), (m 8, .inl (gc G 1, 80, .inl (M 7)))] : va_W)).Perm (mdW G m (ur M 1 f)) := (mdl1_p G m (ur M 1 f)).symm
theorem mdl1_i {post : Int32 → S → Prop} {F : S → RT} (hM : MI l y cc maxL ret rm av G (gW G (m 2) (M 1)) post (fun u => gW G (m 2) (F u))) : MI l y cc maxL ret rm av G (mdW G m M) post (fun u => mdW G m (ur M 1 (F u))) := fr_i hM (mdl1_p G m M) (fun u => mdl1_q G m M (F u))
theorem mdl1_ir {post : Int32 → S → Prop} (hM : MI l y cc maxL ret rm av G (gW G (m 2) (M 1)) post (fun _ => gW G (m 2) (M 1))) : MI l y cc maxL ret rm av G (mdW G m M) post (fun _ => mdW G m M) := fr_i hM (mdl1_p G m M) (fun _ => (mdl1_p G m M).symm)
theorem mdl1_v {post : S → Prop} {F : S → RT} (hM : MV l y cc maxL rm av G (gW G (m 2) (M 1)) post (fun u => gW G (m 2) (F u))) : MV l y cc maxL rm av G (mdW G m M) post (fun u => mdW G m (ur M 1 (F u))) := fr_v hM (mdl1_p G m M) (fun u => mdl1_q G m M (F u))
theorem mdl2_p (G : gT) (m : Nat → Nat) (M : CT) : (mdW G m M).Perm (gW G (m 3) (M 2) ++ ([(m 0, .inr (11, [.ref (m 1), .ref (m 2), .ref (m 3), .ref (m 4), .ref (m 5), .ref (m 6), .int (M 8 0), .int (M 8 1), .int (M 8 2), .ref (m 7), .int (M 8 3), .int (M 8 4), .int (M 8 5), .int (M 8 6), .int (M 8 7), .int (M 8 8), .int (M 8 9), .int (M 8 10), .ref (m 8), .int (M 8 11)])), (m 1, .inl (gc G 0, 242, .inl (M 0))), (m 2, .inl (gc G 0, 242, .inl (M 1))), (m 4, .inl (gc G 0, 1936, .inl (M 3))), (m 5, .inl (gc G 0, 484, .inl (M 4))), (m 6, .inl (gc G 2, 2, .inl (M 5))), (m 7, .inl (gc G 0, 600, .inl (M 6))), (m 8, .inl (gc G 1, 80, .inl (M 7)))] : va_W)) := perm_idx [3, 0, 1, 2, 4, 5, 6, 7, 8] (show List.Perm [3, 0, 1, 2, 4, 5, 6, 7, 8] (List.range 9) by decide) rfl
theorem mdl2_q (G : gT) (m : Nat → Nat) (M : CT) (f : RT) : (gW G (m 3) f ++ ([(m 0, .inr (11, [.ref (m 1), .ref (m 2), .ref (m 3), .ref (m 4), .ref (m 5), .ref (m 6), .int (M 8 0), .int (M 8 1), .int (M 8 2), .ref (m 7), .int (M 8 3), .int (M 8 4), .int (M 8 5), .int (M 8 6), .int (M 8 7), .int (M 8 8), .int (M 8 9), .int (M 8 10), .ref (m 8), .int (M 8 11)])), (m 1, .inl (gc G 0, 242, .inl (M 0))), (m 2, .inl (gc G 0, 242, .inl (M 1))), (m 4, .inl (gc G 0, 1936, .inl (M 3))), (m 5, .inl (gc G 0, 484, .inl (M 4))), (m 6, .inl (gc G 2, 2, .inl (M 5))), (m 7, .inl (gc G 0, 600, .inl (M 6))), (m 8, .inl (gc G 1, 80, .inl (M 7)))] : va_W)).Perm (mdW G m (ur M 2 f)) := (mdl2_p G m (ur M 2 f)).symm
theorem mdl2_i {post : Int32 → S → Prop} {F : S → RT} (hM : MI l y cc maxL ret rm av G (gW G (m 3) (M 2)) post (fun u => gW G (m 3) (F u))) : MI l y cc maxL ret rm av G (mdW G m M) post (fun u => mdW G m (ur M 2 (F u))) := fr_i hM (mdl2_p G m M) (fun u => mdl2_q G m M (F u))
theorem mdl2_ir {post : Int32 → S → Prop} (hM : MI l y cc maxL ret rm av G (gW G (m 3) (M 2)) post (fun _ => gW G (m 3) (M 2))) : MI l y cc maxL ret rm av G (mdW G m M) post (fun _ => mdW G m M) := fr_i hM (mdl2_p G m M) (fun _ => (mdl2_p G m M).symm)
theorem mdl2_v {post : S → Prop} {F : S → RT} (hM : MV l y cc maxL rm av G (gW G (m 3) (M 2)) post (fun u => gW G (m 3) (F u))) : MV l y cc maxL rm av G (mdW G m M) post (fun u => mdW G m (ur M 2 (F u))) := fr_v hM (mdl2_p G m M) (fun u => mdl2_q G m M (F u))
theorem mdc10_p (G : gT) (m : Nat → Nat) (M : CT) : (mdW G m M).Perm (hW G (m 2) (m 1) 242 242 (M 1) (M 0) ++ ([(m 0, .inr (11, [.ref (m 1), .ref (m 2), .ref (m 3), .ref (m 4), .ref (m 5), .ref (m 6), .int (M 8 0), .int (M 8 1), .int (M 8 2), .ref (m 7), .int (M 8 3), .int (M 8 4), .int (M 8 5), .int (M 8 6), .int (M 8 7), .int (M 8 8), .int (M 8 9), .int (M 8 10), .ref (m 8), .int (M 8 11)])), (m 3, .inl (gc G 0, 242, .inl (M 2))), (m 4, .inl (gc G 0, 1936, .inl (M 3))), (m 5, .inl (gc G 0, 484, .inl (M 4))), (m 6, .inl (gc G 2, 2, .inl (M 5))), (m 7, .inl (gc G 0, 600, .inl (M 6))), (m 8, .inl (gc G 1, 80, .inl (M 7)))] : va_W)) := perm_idx [2, 1, 0, 3, 4, 5, 6, 7, 8] (show List.Perm [2, 1, 0, 3, 4, 5, 6, 7, 8] (List.range 9) by decide) rfl
theorem mdc10_v {post : S → Prop} {F : S → RT} (hM : MV l y cc maxL rm av G (hW G (m 2) (m 1) 242 242 (M 1) (M 0)) post (fun u => hW G (m 2) (m 1) 242 242 (M 1) (F u))) : MV l y cc maxL rm av G (mdW G m M) post (fun u => mdW G m (ur M 0 (F u))) := fr_v hM (mdc10_p G m M) (fun u => (mdc10_p G m (ur M 0 (F u))).symm)
theorem mdc03_p (G : gT) (m : Nat → Nat) (M : CT) : (mdW G m M).Perm (hW G (m 1) (m 4) 242 1936 (M 0) (M 3) ++ ([(m 0, .inr (11, [.ref (m 1), .ref (m 2), .ref (m 3), .ref (m 4), .ref (m 5), .ref (m 6), .int (M 8 0), .int (M 8 1), .int (M 8 2), .ref (m 7), .int (M 8 3), .int (M 8 4), .int (M 8 5), .int (M 8 6), .int (M 8 7), .int (M 8 8), .int (M 8 9), .int (M 8 10), .ref (m 8), .int (M 8 11)])), (m 2, .inl (gc G 0, 242, .inl (M 1))), (m 3, .inl (gc G 0, 242, .inl (M 2))), (m 5, .inl (gc G 0, 484, .inl (M 4))), (m 6, .inl (gc G 2, 2, .inl (M 5))), (m 7, .inl (gc G 0, 600, .inl (M 6))), (m 8, .inl (gc G 1, 80, .inl (M 7)))] : va_W)) := perm_idx [1, 4, 0, 2, 3, 5, 6, 7, 8] (show List.Perm [1, 4, 0, 2, 3, 5, 6, 7, 8] (List.range 9) by decide) rfl
theorem mdc03_v {post : S → Prop} {F : S → RT} (hM : MV l y cc maxL rm av G (hW G (m 1) (m 4) 242 1936 (M 0) (M 3)) post (fun u => hW G (m 1) (m 4) 242 1936 (M 0) (F u))) : MV l y cc maxL rm av G (mdW G m M) post (fun u => mdW G m (ur M 3 (F u))) := fr_v hM (mdc03_p G m M) (fun u => (mdc03_p G m (ur M 3 (F u))).symm)
theorem mdc30_p (G : gT) (m : Nat → Nat) (M : CT) : (mdW G m M).Perm (hW G (m 4) (m 1) 1936 242 (M 3) (M 0) ++ ([(m 0, .inr (11, [.ref (m 1), .ref (m 2), .ref (m 3), .ref (m 4), .ref (m 5), .ref (m 6), .int (M 8 0), .int (M 8 1), .int (M 8 2), .ref (m 7), .int (M 8 3), .int (M 8 4), .int (M 8 5), .int (M 8 6), .int (M 8 7), .int (M 8 8), .int (M 8 9), .int (M 8 10), .ref (m 8), .int (M 8 11)])), (m 2, .inl (gc G 0, 242, .inl (M 1))), (m 3, .inl (gc G 0, 242, .inl (M 2))), (m 5, .inl (gc G 0, 484, .inl (M 4))), (m 6, .inl (gc G 2, 2, .inl (M 5))), (m 7, .inl (gc G 0, 600, .inl (M 6))), (m 8, .inl (gc G 1, 80, .inl (M 7)))] : va_W)) := perm_idx [4, 1, 0, 2, 3, 5, 6, 7, 8] (show List.Perm [4, 1, 0, 2, 3, 5, 6, 7, 8] (List.range 9) by decide) rfl
theorem mdc30_v {post : S → Prop} {F : S → RT} (hM : MV l y cc maxL rm av G (hW G (m 4) (m 1) 1936 242 (M 3) (M 0)) post (fun u => hW G (m 4) (m 1) 1936 242 (M 3) (F u))) : MV l y cc maxL rm av G (mdW G m M) post (fun u => mdW G m (ur M 0 (F u))) := fr_v hM (mdc30_p G m M) (fun u => (mdc30_p G m (ur M 0 (F u))).symm)
theorem mdc02_p (G : gT) (m : Nat → Nat) (M : CT) : (mdW G m M).Perm (hW G (m 1) (m 3) 242 242 (M 0) (M 2) ++ ([(m 0, .inr (11, [.ref (m 1), .ref (m 2), .ref (m 3), .ref (m 4), .ref (m 5), .ref (m 6), .int (M 8 0), .int (M 8 1), .int (M 8 2), .ref (m 7), .int (M 8 3), .int (M 8 4), .int (M 8 5), .int (M 8 6), .int (M 8 7), .int (M 8 8), .int (M 8 9), .int (M 8 10), .ref (m 8), .int (M 8 11)])), (m 2, .inl (gc G 0, 242, .inl (M 1))), (m 4, .inl (gc G 0, 1936, .inl (M 3))), (m 5, .inl (gc G 0, 484, .inl (M 4))), (m 6, .inl (gc G 2, 2, .inl (M 5))), (m 7, .inl (gc G 0, 600, .inl (M 6))), (m 8, .inl (gc G 1, 80, .inl (M 7)))] : va_W)) := perm_idx [1, 3, 0, 2, 4, 5, 6, 7, 8] (show List.Perm [1, 3, 0, 2, 4, 5, 6, 7, 8] (List.range 9) by decide) rfl
theorem mdc02_v {post : S → Prop} {F : S → RT} (hM : MV l y cc maxL rm av G (hW G (m 1) (m 3) 242 242 (M 0) (M 2)) post (fun u => hW G (m 1) (m 3) 242 242 (M 0) (F u))) : MV l y cc maxL rm av G (mdW G m M) post (fun u => mdW G m (ur M 2 (F u))) := fr_v hM (mdc02_p G m M) (fun u => (mdc02_p G m (ur M 2 (F u))).symm)
theorem mdc04_p (G : gT) (m : Nat → Nat) (M : CT) : (mdW G m M).Perm (hW G (m 1) (m 5) 242 484 (M 0) (M 4) ++ ([(m 0, .inr (11, [.ref (m 1), .ref (m 2), .ref (m 3), .ref (m 4), .ref (m 5), .ref (m 6), .int (M 8 0), .int (M 8 1), .int (M 8 2), .ref (m 7), .int (M 8 3), .int (M 8 4), .int (M 8 5), .int (M 8 6), .int (M 8 7), .int (M 8 8), .int (M 8 9), .int (M 8 10), .ref (m 8), .int (M 8 11)])), (m 2, .inl (gc G 0, 242, .inl (M 1))), (m 3, .inl (gc G 0, 242, .inl (M 2))), (m 4, .inl (gc G 0, 1936, .inl (M 3))), (m 6, .inl (gc G 2, 2, .inl (M 5))), (m 7, .inl (gc G 0, 600, .inl (M 6))), (m 8, .inl (gc G 1, 80, .inl (M 7)))] : va_W)) := perm_idx [1, 5, 0, 2, 3, 4, 6, 7, 8] (show List.Perm [1, 5, 0, 2, 3, 4, 6, 7, 8] (List.range 9) by decide) rfl
theorem mdc04_v {post : S → Prop} {F : S → RT} (hM : MV l y cc maxL rm av G (hW G (m 1) (m 5) 242 484 (M 0) (M 4)) post (fun u => hW G (m 1) (m 5) 242 484 (M 0) (F u))) : MV l y cc maxL rm av G (mdW G m M) post (fun u => mdW G m (ur M 4 (F u))) := fr_v hM (mdc04_p G m M) (fun u => (mdc04_p G m (ur M 4 (F u))).symm)
theorem mdc40_p (G : gT) (m : Nat → Nat) (M : CT) : (mdW G m M).Perm (hW G (m 5) (m 1) 484 242 (M 4) (M 0) ++ ([(m 0, .inr (11, [.ref (m 1), .ref (m 2), .ref (m 3), .ref (m 4), .ref (m 5), .ref (m 6), .int (M 8 0), .int (M 8 1), .int (M 8 2), .ref (m 7), .int (M 8 3), .int (M 8 4), .int (M 8 5), .int (M 8 6), .int (M 8 7), .int (M 8 8), .int (M 8 9), .int (M 8 10), .ref (m 8), .int (M 8 11)])), (m 2, .inl (gc G 0, 242, .inl (M 1))), (m 3, .inl (gc G 0, 242, .inl (M 2))), (m 4, .inl (gc G 0, 1936, .inl (M 3))), (m 6, .inl (gc G 2, 2, .inl (M 5))), (m 7, .inl (gc G 0, 600, .inl (M 6))), (m 8, .inl (gc G 1, 80, .inl (M 7)))] : va_W)) := perm_idx [5, 1, 0, 2, 3, 4, 6, 7, 8] (show List.Perm [5, 1, 0, 2, 3, 4, 6, 7, 8] (List.range 9) by decide) rfl
theorem mdc40_v {post : S → Prop} {F : S → RT} (hM : MV l y cc maxL rm av G (hW G (m 5) (m 1) 484 242 (M 4) (M 0)) post (fun u => hW G (m 5) (m 1) 484 242 (M 4) (F u))) : MV l y cc maxL rm av G (mdW G m M) post (fun u => mdW G m (ur M 0 (F u))) := fr_v hM (mdc40_p G m M) (fun u => (mdc40_p G m (ur M 0 (F u))).symm)
end MDL
theorem cpy_succ (f h : RT) (sp dp i : Nat) : upd (va_cpy f h sp dp i) (dp + i) (f (sp + i)) = va_cpy f h sp dp (i + 1) := by
  funext j
  by_cases e : j = dp + i
  · subst e; rw [pk_us, pk_cpy_in (by omega) (by omega), show dp + i - dp = i by omega]
  · rw [pk_un e]
    by_cases q : dp ≤ j ∧ j < dp + i
    · rw [pk_cpy_in q.1 q.2, pk_cpy_in q.1 (by omega)]
    · rw [pk_cpy_out (by omega), pk_cpy_out (by omega)]
theorem cpy_0 (f h : RT) (sp dp : Nat) : va_cpy f h sp dp 0 = h := by
  funext j; exact pk_cpy_out (by omega)
theorem J_lvq {x : JX} {G : gT} {ws : va_W} {k n : Nat} {lv lv' : List (Nat × Value)} {st : List Value} {pc : Nat} (h : lv = lv') (kk : J x G ws k n lv' st pc) : J x G ws k n lv st pc := h ▸ kk
theorem lt_m1 {a b : Nat} (h : a ≤ b) (hb : b < 2 ^ 30) : nI a - 1 < nI b := by
  rw [fa_lt, show (1 : Int32) = nI 1 from rfl, pk_sub_toInt (by omega) (by omega), nI_toInt (by omega)]
  omega
theorem i_m1 (x : Int32) : x + (-1) = x - 1 := (Int32.sub_eq_add_neg x 1).symm
/-! indices: an int that is a number below n -/
def cl (v : Int32) : Nat := v.toNatClampNeg
def inr (v : Int32) (n : Nat) : Prop := ¬ v < 0 ∧ v < nI n
theorem inr_eq {v : Int32} {n : Nat} (h : inr v n) (hn : n < 2 ^ 31) : v = nI (cl v) ∧ cl v < n := by
  obtain ⟨j, hj, rfl⟩ := nI_of h.1
  rw [cl, nI_clamp hj]
  exact ⟨rfl, (nI_ltI hj hn).mp h.2⟩
theorem inr_nI {w n : Nat} (h : w < n) (hn : n < 2 ^ 31) : inr (nI w) n := ⟨fun h0 => by rw [fa_lt, nI_toInt (by omega)] at h0; exact absurd h0 (by rw [show ((0 : Int32)).toInt = 0 from rfl]; omega), (nI_ltI (by omega) hn).mpr h⟩
theorem inr_m1 {v : Int32} {n : Nat} (hn : n < 2 ^ 30) : (¬ v < 0 ∧ ¬ nI n - 1 < v) ↔ inr v n := by
  refine and_congr_right fun _ => ?_
  rw [fa_lt, fa_lt, show (1 : Int32) = nI 1 from rfl, pk_sub_toInt (by omega) (by omega), nI_toInt (by omega)]
  omega
theorem inr_le {v : Int32} {n : Nat} (hn : n < 2 ^ 30) : (¬ v < 0 ∧ ¬ nI n < v) ↔ inr v (n + 1) := by
  refine and_congr_right fun _ => ?_
  rw [fa_lt, fa_lt, nI_toInt (by omega), nI_toInt (by omega)]
  omega
theorem us_us (M : CT) (r i : Nat) (a b : Int32) : us (us M r i a) r i b = us M r i b := by
  funext r' j
  simp only [us, upd]
  by_cases h : r' = r <;> by_cases q : j = i <;> simp [h, q, upd]
theorem ct_ext {M N : CT} (h : ∀ r j, M r j = N r j) : M = N := funext fun r => funext fun j => h r j
theorem nI_m1_toInt {n : Nat} (hn : n < 2 ^ 30) : (nI n - 1).toInt = (n : Int) - 1 := by
  rw [show (1 : Int32) = nI 1 from rfl, pk_sub_toInt (by omega) (by omega)]; rfl
theorem J_congw {x : JX} {G : gT} {ws ws' : va_W} {k n' : Nat} {lv : List (Nat × Value)} {st : List Value} {pc : Nat} {q a n : Nat} {cA : ClassId} {f g : Nat → Int32} (hq : ws[q]? = some (a, .inl (cA, n, .inl f))) (h : ∀ i, i < n → f i = g i) (hw : ws.set q (a, .inl (cA, n, .inl g)) = ws') (kk : J x G ws' k n' lv st pc) : J x G ws k n' lv st pc := by
  subst hw
  exact J_cong hq h kk

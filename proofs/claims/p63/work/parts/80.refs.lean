/-! REFERENCES: methods that answer a reference; rows of references, bytes, grids; calls of inherited methods and of super's -/
section J80
variable {x : JX} {G : gT} {R : Room} {cc : ByteArray} {w0 : Cond} {own : String} {nL : Nat} {ws : va_W} {k n : Nat} {lv : List (Nat × Value)} {st rest : List Value} {pc : Nat}
theorem J_ineg (hC : JC x G R cc w0 own nL) {a v : Int32} (hd : decode cc pc = .ok (.ineg, 1)) (hv : -a = v) (kk : J x G ws k n lv (.int v :: st) (pc + 1)) : J x G ws k n lv (.int a :: st) pc := by
  subst hv
  exact fun H locs ls hP hD hS hL => lv_ineg hC.1 hC.2.1 hd (kk H locs ls hP hD hS hL)
theorem J_dup_x1 (hC : JC x G R cc w0 own nL) {v w : Value} (hd : decode cc pc = .ok (.dup_x1, 1)) (hv : v.category = 1) (hw : w.category = 1) (kk : J x G ws k n lv (v :: w :: v :: st) (pc + 1)) : J x G ws k n lv (v :: w :: st) pc :=
  fun H locs ls hP hD hS hL => lv_dup_x1 hC.1 hC.2.1 hd hv hw (kk H locs ls hP hD hS hL)
theorem J_ifnn (hC : JC x G R cc w0 own nL) {a tgt : Nat} {off : Int} (hd : decode cc pc = .ok (.ifnonnull off, 3)) (ht : (pc : Int) + off = (tgt : Int)) (kk : J x G ws k n lv st tgt) : J x G ws k n lv (.ref a :: st) pc :=
  fun H locs ls hP hD hS hL => lv_ifnonnull hC.1 hC.2.1 hd ht (kk H locs ls hP hD hS hL)
theorem J_aconst (hC : JC x G R cc w0 own nL) (hd : decode cc pc = .ok (.aconst_null, 1)) (kk : J x G ws k n lv (.null :: st) (pc + 1)) : J x G ws k n lv st pc :=
  fun H locs ls hP hD hS hL => lv_null hC.1 hC.2.1 hd (kk H locs ls hP hD hS hL)
/-- any array's length -/
theorem J_alen (hC : JC x G R cc w0 own nL) {a t : Nat} {cA : ClassId} {ty : FieldType} {z : vp_A} (hd : decode cc pc = .ok (.arraylength, 1)) (q : Nat) (hq : ws[q]? = some (a, .inl (cA, z))) (ht : (tyl G)[t]? = some (cA, ty)) (kk : J x G ws k n lv (.int (nI z.1) :: st) (pc + 1)) : J x G ws k n lv (.ref a :: st) pc :=
  fun H locs ls hP hD hS hL => va_alen hC.1 hC.2.1 hC.2.2.2.2.2.1 hP q t hq ht rfl hd (kk H locs ls hP hD hS hL)
-- the script
theorem JC_F (hC : JC x G R cc w0 own nL) : xF G.2.2.1 (jA x) (js x) (js x).heap := (JC_x hC).2.1
theorem J_sclen (hC : JC x G R cc w0 own nL) (hd : decode cc pc = .ok (.arraylength, 1)) (kk : J x G ws k n lv (.int (nI (G.2.2.1 15)) :: st) (pc + 1)) : J x G ws k n lv (.ref (G.2.2.1 14) :: st) pc := by
  intro H locs ls hP hD hS hL
  have hS' := hS
  rw [JC_h hC] at hS'
  exact va_tlen hC.1 hC.2.1 (JC_F hC).2.2.2.2.1 hS' rfl hd (kk H locs ls hP hD hS hL)
theorem J_scld (hC : JC x G R cc w0 own nL) {i : Nat} (hi : i < G.2.2.1 15) (hb : G.2.2.1 15 < 2 ^ 31) (hd : decode cc pc = .ok (.iaload, 1)) (kk : J x G ws k n lv (.int (scX G.2.2.1 i) :: st) (pc + 1)) : J x G ws k n lv (.int (nI i) :: .ref (G.2.2.1 14) :: st) pc := by
  intro H locs ls hP hD hS hL
  have hS' := hS
  rw [JC_h hC] at hS'
  exact va_ti hC.1 hC.2.1 (JC_F hC).2.2.2.2.1 hS' (vp_in_nI hi hb) (by rw [nI_clamp (by omega)]) hd (kk H locs ls hP hD hS hL)
-- Integer's tables of digits
theorem J_dgO (hC : JC x G R cc w0 own nL) {idx : Nat} (hd : decode cc pc = .ok (.getstatic idx, 3)) (hl : Cond.fieldLink own idx "java/lang/Integer" "DigitOnes" "[B" ∈ GW) (kk : ∀ t, va_T .byte t 100 (fun j => .int (dgO j)) (jA x) (js x) (js x).heap → J x G ws k n lv (.ref t :: st) (pc + 3)) : J x G ws k n lv st pc := by
  intro H locs ls hP hD hS hL
  have hS' := hS
  rw [JC_h hC] at hS'
  obtain ⟨t, h1, h2⟩ := (JC_F hC).2.2.1
  exact va_gets hC.1 hC.2.1 h1 hS' hC.2.2.2.1 (JC_w hC hl) (fun _ h => h) hd (kk t h2 H locs ls hP hD hS hL)
theorem J_dgT (hC : JC x G R cc w0 own nL) {idx : Nat} (hd : decode cc pc = .ok (.getstatic idx, 3)) (hl : Cond.fieldLink own idx "java/lang/Integer" "DigitTens" "[B" ∈ GW) (kk : ∀ t, va_T .byte t 100 (fun j => .int (dgT j)) (jA x) (js x) (js x).heap → J x G ws k n lv (.ref t :: st) (pc + 3)) : J x G ws k n lv st pc := by
  intro H locs ls hP hD hS hL
  have hS' := hS
  rw [JC_h hC] at hS'
  obtain ⟨t, h1, h2⟩ := (JC_F hC).2.2.2.1
  exact va_gets hC.1 hC.2.1 h1 hS' hC.2.2.2.1 (JC_w hC hl) (fun _ h => h) hd (kk t h2 H locs ls hP hD hS hL)
theorem J_dgl (hC : JC x G R cc w0 own nL) {t i : Nat} {f : Nat → Int32} (hT : va_T .byte t 100 (fun j => .int (f j)) (jA x) (js x) (js x).heap) (hi : i < 100) (hd : decode cc pc = .ok (.baload, 1)) (kk : J x G ws k n lv (.int (f i) :: st) (pc + 1)) : J x G ws k n lv (.int (nI i) :: .ref t :: st) pc := by
  intro H locs ls hP hD hS hL
  have hS' := hS
  rw [JC_h hC] at hS'
  exact va_tb hC.1 hC.2.1 hT hS' (vp_in_nI hi (by decide)) (by rw [nI_clamp (by omega)]) hd (kk H locs ls hP hD hS hL)
-- System.arraycopy of bytes: within the world, and out of a String constant
theorem J_copyB (hC : JC x G R cc w0 own nL) {idx a0 a n0 n1 sp dp m : Nat} {f g : Nat → Int32} {ws' : va_W} (hd : decode cc pc = .ok (.invokestatic idx, 3)) (hl : Cond.methodLink own idx arraycopyName ∈ GW) (q0 q1 : Nat) (h0 : ws[q0]? = some (a0, .inl (gc G 1, n0, .inl f))) (h1 : ws[q1]? = some (a, .inl (gc G 1, n1, .inl g)))
    (hs : sp + m ≤ n0) (ht : dp + m ≤ n1) (hb0 : n0 < 2 ^ 31) (hb1 : n1 < 2 ^ 31) (hfit : ∀ i, i < m → fits .byte (.int (f (sp + i))) = true) (hf : 1 ≤ R.frames) (hlo : (st.map fun v => v.category).sum + (nativeFrameWords "java/lang/System" "arraycopy" 5 + 11) ≤ R.locals) (hw : ws.set q1 (a, .inl (gc G 1, n1, .inl (va_cpy f g sp dp m))) = ws') (kk : J x G ws' k n lv st (pc + 3)) :
    J x G ws k n lv (.int (nI m) :: .int (nI dp) :: .ref a :: .int (nI sp) :: .ref a0 :: st) pc := by
  subst hw
  intro H locs ls hP hD hS hL
  have hRR : jR x = R := hC.2.2.2.2.2.2.2.1
  have W9 : ∀ w ∈ GW, w.before (ja x) (js x) = true := fun w h => hC.2.2.2.2.1 w (List.mem_cons_of_mem _ h)
  have e1 : (nI sp).toNatClampNeg = sp := nI_clamp (by omega)
  have e2 : (nI dp).toNatClampNeg = dp := nI_clamp (by omega)
  have e3 : (nI m).toNatClampNeg = m := nI_clamp (by omega)
  refine va_copyi hC.1 hC.2.1 hL.1.symm hC.2.2.2.1 (W9 _ hl) (W9 _ wnat_arraycopyName) (W9 _ wst_arraycopyName) (W9 _ wi_J10) hC.2.2.2.2.2.1 hP hD hS q0 q1 1 1 (ty := .byte) h0 h1 rfl rfl rfl (nI_pos (by omega)) (nI_pos (by omega)) (nI_pos (by omega)) (by rw [e1, e3]; exact hs) (by rw [e2, e3]; exact ht) (by rw [e1, e3]; exact hfit) (by rw [hRR]; exact hf) (by rw [hRR]; exact hlo) hd (fun H1 locs1 hP1 hD1 hS1 => ?_)
  rw [e1, e2, e3] at hP1 hD1
  exact kk H1 locs1 ls hP1 hD1 hS1 hL
theorem J_copyT (hC : JC x G R cc w0 own nL) {idx a0 a n0 n1 dp : Nat} {f g : Nat → Int32} {ws' : va_W} (hT : va_T .byte a0 n0 (fun j => .int (f j)) (jA x) (js x) (js x).heap) (hd : decode cc pc = .ok (.invokestatic idx, 3)) (hl : Cond.methodLink own idx arraycopyName ∈ GW) (q1 : Nat) (h1 : ws[q1]? = some (a, .inl (gc G 1, n1, .inl g)))
    (ht : dp + n0 ≤ n1) (hb0 : n0 < 2 ^ 31) (hb1 : n1 < 2 ^ 31) (hfit : ∀ i, i < n0 → fits .byte (.int (f i)) = true) (hf : 1 ≤ R.frames) (hlo : (st.map fun v => v.category).sum + (nativeFrameWords "java/lang/System" "arraycopy" 5 + 11) ≤ R.locals) (hw : ws.set q1 (a, .inl (gc G 1, n1, .inl (va_cpy f g 0 dp n0))) = ws') (kk : J x G ws' k n lv st (pc + 3)) :
    J x G ws k n lv (.int (nI n0) :: .int (nI dp) :: .ref a :: .int 0 :: .ref a0 :: st) pc := by
  subst hw
  intro H locs ls hP hD hS hL
  have hRR : jR x = R := hC.2.2.2.2.2.2.2.1
  have W9 : ∀ w ∈ GW, w.before (ja x) (js x) = true := fun w h => hC.2.2.2.2.1 w (List.mem_cons_of_mem _ h)
  have e1 : (0 : Int32).toNatClampNeg = 0 := rfl
  have e2 : (nI dp).toNatClampNeg = dp := nI_clamp (by omega)
  have e3 : (nI n0).toNatClampNeg = n0 := nI_clamp (by omega)
  have hS' := hS
  rw [JC_h hC] at hS'
  refine vk_copyt hC.1 hC.2.1 hL.1.symm hC.2.2.2.1 (W9 _ hl) (W9 _ wnat_arraycopyName) (W9 _ wst_arraycopyName) (W9 _ wi_J10) hC.2.2.2.2.2.1 hP hD hS' hT q1 1 h1 rfl (by decide) (nI_pos (by omega)) (nI_pos (by omega)) (by rw [e1, e3]; omega) (by rw [e2, e3]; exact ht) (by rw [e1, e3]; intro i hi; rw [Nat.zero_add]; exact hfit i hi) (by rw [hRR]; exact hf) (by rw [hRR]; exact hlo) hd (fun H1 locs1 hP1 hD1 hS1 => ?_)
  rw [e1, e2, e3] at hP1 hD1
  rw [← JC_h hC] at hS1
  exact kk H1 locs1 ls hP1 hD1 hS1 hL
-- grids
theorem cG_cls (hC : JC x G R cc w0 own nL) : ∃ kA : Class, (js x).vm.classes[gc G 4]? = some kA ∧ kA.kind = .array (gc G 0) (.array .int) := by
  obtain ⟨comp, c, k, h1, h2, h3, h4, h5⟩ := arrayOverA_spec (JC_F hC).2.1
  have hc : c = gc G 4 := Option.some.inj (h5.symm.trans (hC.2.2.2.2.2.1.2 4 (gc G 4, .array .int) rfl).2)
  have h0 : comp = gc G 0 := Option.some.inj (h1.symm.trans (hC.2.2.2.2.2.1.2 0 (gc G 0, .int) rfl).2)
  subst hc h0
  exact ⟨k, h3, h4⟩
theorem J_newG (hC : JC x G R cc w0 own nL) {N idx : Nat} (hd : decode cc pc = .ok (.anewarray idx, 3)) (hcl : Cond.classLink own idx "[I" ∈ GW) (hN : N < 1000000) (hk : k + 1 ≤ R.cells) (hn : n + N ≤ R.slots) (kk : ∀ q, J x G (ws ++ [(q, .inl (gc G 4, N, .inr (.inr (.inr (.inr (fun _ => none))))))]) (k + 1) (n + N) lv (.ref q :: st) (pc + 3)) : J x G ws k n lv (.int (nI N) :: st) pc := by
  intro H locs ls hP hD hS hL
  have hRR : jR x = R := hC.2.2.2.2.2.2.2.1
  have eN : (nI N).toNatClampNeg = N := nI_clamp (by omega)
  refine W.anewA (t := .int) hC.1 hC.2.1 hC.2.2.2.1 (JC_w hC hcl) (JC_F hC).2.1 rfl hd rfl (nI_nneg (by omega)) (by rw [eN]; omega) (by rw [hRR]; exact hk) (by rw [eN, hRR]; exact hn) fun cA kA comp f1 f2 f3 f4 => ?_
  rw [eN]
  have ec : cA = gc G 4 := Option.some.inj (f1.symm.trans (hC.2.2.2.2.2.1.2 4 (gc G 4, .array .int) rfl).2)
  subst ec
  generalize hH1 : H.push ({ cls := gc G 4, slots := Array.replicate N .null, vm := .none } : Cell) = H1
  have z1 : H1.size = H.size + 1 := by rw [← hH1, Array.size_push]
  have e1 : H1[H.size]? = some (arrV (gc G 4) N (fun _ => .null)) := by rw [← hH1, Array.getElem?_push_size, ← arrV_new]
  have o1 : ∀ q : Nat, q < H.size → H1[q]? = H[q]? := fun q hq => by rw [← hH1, Array.getElem?_push, if_neg (Nat.ne_of_lt hq)]
  have hk9 : ∀ (k : Nat) (z : Nat × va_E), ws[k]? = some z → H1[z.1]? = H[z.1]? := fun k z hz => o1 z.1 ((hP k z hz).lt)
  have hS1 : va_S (jA x) (jH x) H1 locs := ⟨Nat.le_trans hS.1 (by omega), fun z h1 h2 => (o1 z (Nat.lt_of_lt_of_le h1 hS.1)).trans (hS.2.1 z h1 h2), hS.2.2⟩
  refine kk H.size H1 locs ls ((hP.kept hk9).app (fun k z hz => ?_)) (hD.push hP rfl (hC.2.2.2.2.2.2.1 _ hS.1)) hS1 hL
  have hz9 : k < 1 := (List.getElem?_eq_some_iff.mp hz).1
  obtain rfl : k = 0 := by omega
  cases hz
  exact e1
theorem J_gald (hC : JC x G R cc w0 own nL) {a m i b : Nat} {f : Nat → Option Nat} (hd : decode cc pc = .ok (.aaload, 1)) (q : Nat) (hq : ws[q]? = some (a, .inl (gc G 4, m, .inr (.inr (.inr (.inr f)))))) (hi : i < m) (hm : m < 2 ^ 31) (hf : f i = some b) (kk : J x G ws k n lv (.ref b :: st) (pc + 1)) : J x G ws k n lv (.int (nI i) :: .ref a :: st) pc := by
  intro H locs ls hP hD hS hL
  have hin : vp_in (nI i) m := vp_in_nI hi hm
  have eI : (nI i).toNatClampNeg = i := nI_clamp (by omega)
  refine W.aald (v := .ref b) (ty := .array .int) hC.1 hC.2.1 (hP q _ hq) ((hC.2.2.2.2.2.1.2 4 (gc G 4, .array .int) rfl).1 m (fun j => va_rf (f j))) rfl (fun h => by cases h) (by show ¬ (nI i < 0 ∨ (arrV _ _ _).slots.size ≤ _); rw [arrV_size]; exact hin) ?_ rfl rfl hd (kk H locs ls hP hD hS hL)
  show (arrV _ _ _).slots[_]? = _
  rw [eI, arrV_read _ _ hi, hf]
  rfl
theorem J_gast (hC : JC x G R cc w0 own nL) {a m i v mv : Nat} {f : Nat → Option Nat} {fv : Nat → Int32} {ws' : va_W} (hd : decode cc pc = .ok (.aastore, 1)) (q qk : Nat) (hq : ws[q]? = some (a, .inl (gc G 4, m, .inr (.inr (.inr (.inr f)))))) (hv : ws[qk]? = some (v, .inl (gc G 0, mv, .inl fv))) (hi : i < m) (hm : m < 2 ^ 31)
    (hw : ws.set q (a, .inl (gc G 4, m, .inr (.inr (.inr (.inr (va_up f i (some v))))))) = ws') (kk : J x G ws' k n lv st (pc + 1)) : J x G ws k n lv (.ref v :: .int (nI i) :: .ref a :: st) pc := by
  subst hw
  intro H locs ls hP hD hS hL
  have eI : (nI i).toNatClampNeg = i := nI_clamp (by omega)
  obtain ⟨kA, k1, k2⟩ := cG_cls hC
  obtain ⟨-, kI, k3, -⟩ := (hC.2.2.2.2.2.1.2 0 (gc G 0, .int) rfl).1 mv (fun j => .int (fv j))
  have k3' : (js x).vm.classes[gc G 0]? = some kI := k3
  refine W.aast hC.1 hC.2.1 (hP q _ hq) (fun q h => by cases h) (fun h => by cases h) k1 k2 rfl k3' ⟨nI_nneg (by omega), by show _ < (arrV _ _ _).slots.size; rw [arrV_size, eI]; exact hi⟩ (hP qk _ hv) (fun q h => by cases h) k3' (va_asg _ _) rfl rfl hd fun H1 e z oq => ?_
  refine kk H1 _ ls (hP.set hD hq ?_ oq) (hD.set hq) (hS.put z oq (hD.2 q _ hq)) hL
  show H1[a]? = some (vp_cell _ _)
  rw [e]
  rw [vp_cell_q, vp_cell_q, arrV_store, eI]
  congr 2
  funext j
  by_cases hj : j = i
  · subst hj
    simp [updV, va_up, va_rf]
  · simp [updV, va_up, hj]
theorem va_at_congq {D : va_G} {cl : List vw_C} {a n : Nat} {cA : ClassId} {f g : Nat → Option Nat} {H : Heap} (h : ∀ i, i < n → f i = g i) (hP : va_at D cl (a, .inl (cA, n, .inr (.inr (.inr (.inr f))))) H) : va_at D cl (a, .inl (cA, n, .inr (.inr (.inr (.inr g))))) H := by
  have e : vp_cell cA (n, .inr (.inr (.inr (.inr f)))) = vp_cell cA (n, .inr (.inr (.inr (.inr g)))) := by
    show arrV cA n (fun j => va_rf (f j)) = arrV cA n (fun j => va_rf (g j))
    simp only [arrV, Cell.mk.injEq, true_and, and_true]
    apply Array.ext
    · simp
    · intro i h1 h2
      simp at h1 ⊢
      rw [h i h1]
  exact hP.trans (congrArg some e)
/-- worlds whose cells hold the same -/
def wEq : va_W → va_W → Prop
  | [], [] => True
  | p :: ps, q :: qs => p.1 = q.1 ∧ (∀ D cl H, va_at D cl p H → va_at D cl q H) ∧ wEq ps qs
  | _, _ => False
theorem wEq.rfl' : ∀ w : va_W, wEq w w
  | [] => trivial
  | _ :: ps => ⟨rfl, fun _ _ _ h => h, wEq.rfl' ps⟩
theorem wEq.app : ∀ {a b c d : va_W}, wEq a b → wEq c d → wEq (a ++ c) (b ++ d)
  | [], [], _, _, _, h => h
  | _ :: _, _ :: _, _, _, h1, h2 => ⟨h1.1, h1.2.1, wEq.app h1.2.2 h2⟩
theorem wEq.fst : ∀ {a b : va_W}, wEq a b → a.map Prod.fst = b.map Prod.fst
  | [], [], _ => rfl
  | _ :: _, _ :: _, h => by rw [List.map_cons, List.map_cons, h.1, wEq.fst h.2.2]
theorem wEq.at_ {D : va_G} {cl : List vw_C} {H : Heap} : ∀ {a b : va_W}, wEq a b → (∀ q ∈ a, va_at D cl q H) → ∀ q ∈ b, va_at D cl q H
  | [], [], _, h => h
  | p :: ps, q :: qs, h, hp => fun z hz => by
    rcases List.mem_cons.mp hz with rfl | hz
    · exact h.2.1 D cl H (hp p List.mem_cons_self)
    · exact wEq.at_ h.2.2 (fun y hy => hp y (List.mem_cons_of_mem _ hy)) z hz
theorem wEq.mem {A : Nat → Prop} : ∀ {a b : va_W}, wEq a b → (∀ q ∈ a, A q.1) → ∀ q ∈ b, A q.1
  | [], [], _, h => h
  | p :: ps, q :: qs, h, hp => fun z hz => by
    rcases List.mem_cons.mp hz with rfl | hz
    · rw [← h.1]; exact hp p List.mem_cons_self
    · exact wEq.mem h.2.2 (fun y hy => hp y (List.mem_cons_of_mem _ hy)) z hz
theorem J_wEq {ws' : va_W} (h : wEq ws ws') (kk : J x G ws' k n lv st pc) : J x G ws k n lv st pc := fun H locs ls hP hD hS hL =>
  kk H locs ls (va_P_iff.mpr (h.at_ (va_P_iff.mp hP))) (va_D_iff.mpr ⟨by rw [← h.fst]; exact (va_D_iff.mp hD).1, h.mem (va_D_iff.mp hD).2⟩) hS hL
end J80
-- RETURNS OF REFERENCES
def JRa {S : Type} (x : JX) (G : gT) (ty : FieldType) (post : S → Prop) (ad : S → Nat) (W1 : S → va_W) (mc ms : Nat) : Prop :=
  (jt x).sig.returnType = some ty ∧ ((∃ n, ty = .object n) ∨ ∃ t, ty = .array t) ∧ (jt x).locks = false ∧ jQ x = MQ (jb x) (va_Qr post (fun u a t => a = ad u ∧ gB G (W1 u) (jA x) t) (jA x)) (ja x) (js x) mc ms (jA x)
theorem J_aret {S : Type} {x : JX} {G : gT} {R : Room} {cc : ByteArray} {w0 : Cond} {own : String} {nL : Nat} {ws : va_W} {k n mc ms a : Nat} {lv : List (Nat × Value)} {pc : Nat} {ty : FieldType} {post : S → Prop} {ad : S → Nat} {W1 : S → va_W} (hC : JC x G R cc w0 own nL) (hR : JRa x G ty post ad W1 mc ms)
    (hd : decode cc pc = .ok (.areturn, 1)) (u : S) (hp : post u) (ha : a = ad u) (hw : ws = W1 u) (hk : k ≤ mc) (hs : n ≤ ms) : J x G ws k n lv [.ref a] pc := by
  subst hw
  intro H locs ls hP hD hS hL
  obtain ⟨hr, hty, hlk, hQ⟩ := hR
  rw [hQ]
  rw [hC.2.2.2.2.2.2.2.2.1] at hS
  refine W.widen hk hs ?_
  exact W.aret hC.1 hC.2.1 hr hty (Or.inr ⟨a, rfl⟩) (fun t ht hW => ⟨⟨u, a, rfl, hp, ha, by rw [ht]; exact hP, va_K.moved hW.alike hC.2.2.2.2.2.1, hD⟩, hS.F ht⟩) hS.2.2 hd hlk
/-- a method that answers a reference: the one at ad u -/
abbrev MA {S : Type} (l : Launch) (y : MethodName) (cc : ByteArray) (maxL : Nat) (ret : Option FieldType) (rm : Room) (av : List Value) (G : gT) (W0 : va_W) (post : S → Prop) (ad : S → Nat) (W1 : S → va_W) : Prop := ∀ sz : Nat, Met l y (Cond.code y cc maxL ret :: GW) rm (va_Pc av (gP G W0 sz)) (va_Qr post (fun u a t => a = ad u ∧ gB G (W1 u) (va_A W0 sz) t) (va_A W0 sz)) rm.cells rm.slots (va_A W0 sz)
theorem jm_a {S : Type} {l : Launch} {y : MethodName} {rm : Room} {cc : ByteArray} {maxL : Nat} {ty : FieldType} {av : List Value} {G : gT} {W0 : va_W} {W1 : S → va_W} {post : S → Prop} {ad : S → Nat} {own : String} (hy : plainName y.cls = true) (ho : y.cls = own) (hty : (∃ n, ty = .object n) ∨ ∃ t, ty = .array t) (hn : (lg_sl av).length ≤ maxL)
    (body : ∀ x : JX, jl x = l → JC x G rm cc (Cond.code y cc maxL (some ty)) own maxL → JRa x G ty post ad W1 rm.cells rm.slots → J x G W0 0 0 (lv_args 0 av) [] 0) :
    MA l y cc maxL (some ty) rm av G W0 post ad W1 := by
  intro sz
  refine Met.ofW (cc := cc) (maxL := maxL) (ret := some ty) hy rfl ?_
  intro p e s m args below meth c s₁ B hml hv
  subst ho
  obtain ⟨rfl, hsz, hP, hK, hD0, hE⟩ := hv
  have hts := atoms_spec (ws := Cond.code y cc maxL (some ty) :: GW) B.pre
  have hown : s.vm.findClass y.cls = some m.cls := findClass_of_methodNamed B.named
  subst hsz
  have hD := hD0.self (sz := s.heap.size)
  have hA : ∀ q : Nat, s.heap.size ≤ q → va_A W0 s.heap.size q := fun q h => Or.inr h
  have hl := lv_entry av (n := maxL) hn
  rw [lg_entry_eq]
  exact body (p, l, e, (headSpec (Cond.code y cc maxL (some ty) :: GW) rm).room, s, m, av.toArray, below, meth, c, va_A W0 s.heap.size, s.heap, MQ below (va_Qr post (fun u a t => a = ad u ∧ gB G (W1 u) (va_A W0 s.heap.size) t) (va_A W0 s.heap.size)) av.toArray s rm.cells rm.slots (va_A W0 s.heap.size)) rfl
    ⟨B.exec, B.bytes, hml, hown, hts, hK, hA, rfl, rfl, hE⟩ ⟨B.returns, hty, B.notSynchronized, rfl⟩ s.heap [] _ hP hD va_S.rf (hml ▸ hl)
theorem fr_a {S : Type} {l : Launch} {y : MethodName} {ws : List Cond} {rm : Room} {av : List Value} {G : gT} {W0 wc wr : va_W} {w1 W1 : S → va_W} {mc ms : Nat} {post : S → Prop} {ad : S → Nat} (hM : ∀ sz : Nat, Met l y ws rm (va_Pc av (gP G wc sz)) (va_Qr post (fun u a t => a = ad u ∧ gB G (w1 u) (va_A wc sz) t) (va_A wc sz)) mc ms (va_A wc sz)) (h0 : W0.Perm (wc ++ wr)) (h1 : ∀ u, (w1 u ++ wr).Perm (W1 u)) :
    ∀ sz : Nat, Met l y ws rm (va_Pc av (gP G W0 sz)) (va_Qr post (fun u a t => a = ad u ∧ gB G (W1 u) (va_A W0 sz) t) (va_A W0 sz)) mc ms (va_A W0 sz) := by
  intro sz p e ha hc hk s m args below hf happ hP hKt
  obtain ⟨n, o, g1, g2, g3, ⟨⟨u, a, ho, hpost, ea, hB⟩, hF⟩, L, hFE, hL⟩ := hM sz p e ha hc hk s m args below hf happ ⟨hP.1, fr_sub h0 hP.2⟩ trivial
  obtain ⟨hB2, hF2⟩ := fr_go h0 (h1 u) hP.2 hB hF
  exact ⟨n, o, g1, g2, g3, ⟨⟨u, a, ho, hpost, ea, hB2⟩, hF2⟩, L, hFE, fun q hq => fr_mono h0 _ (hL q hq)⟩
section LIFTA
variable {S : Type} {l : Launch} {y : MethodName} {cc : ByteArray} {maxL : Nat} {ret : Option FieldType} {rm : Room} {av : List Value} {G : gT} {W : va_W}
theorem app_a (V : va_W) {post : S → Prop} {ad : S → Nat} {F : S → va_W} (h : MA l y cc maxL ret rm av G W post ad F) : MA l y cc maxL ret rm av G (W ++ V) post ad (fun u => F u ++ V) := fr_a h (List.Perm.refl _) (fun _ => List.Perm.refl _)
theorem appr_a (V : va_W) {post : S → Prop} {ad : S → Nat} {F : S → va_W} (h : MA l y cc maxL ret rm av G W post ad F) : MA l y cc maxL ret rm av G (V ++ W) post ad (fun u => V ++ F u) := fr_a h List.perm_append_comm (fun _ => List.perm_append_comm)
end LIFTA
/-- a private method of a class that C extends is selected on C's objects too -/
theorem sel_up {C : String} {y0 y : MethodName} {s : State} {args : Array Value} (hsel : (Cond.selects C y0 y0).before args s = true) (hcl : y.cls = y0.cls) (hy : y.cls ≠ "java/lang/invoke/MethodHandle" ∧ y.cls ≠ "java/lang/invoke/VarHandle") (hpriv : s.PrivateAt y) (hinst : (Cond.instanceMethod y).before args s = true) : (Cond.selects C y y).before args s = true := by
  obtain ⟨c2, r2, m2, q1, q2, q3, q4, kP, hkP, hkPi⟩ := Cond.selects_spec hsel
  obtain ⟨mk, methM, hnamed, hmethM, -, -⟩ := Cond.instanceMethod_spec hinst
  have hfound : s.methodFound? y.cls y.name y.desc = some mk := State.methodFound?_of_named hnamed hy
  have hcls : mk.cls = m2.cls := Option.some.inj ((findClass_of_methodNamed hnamed).symm.trans ((congrArg (fun n => s.vm.findClass n) hcl).trans (findClass_of_methodNamed q3)))
  have hsel : selectMethod {} s.vm c2 mk = .method mk := selectMethod_private hmethM (hpriv mk methM hnamed hmethM)
  rw [← hcls] at hkP
  simp only [Cond.before, Cond.holds, Cond.value, q1, hfound, hnamed, hsel, hkP]
  simp; exact hkPi
/-- what the tables say of an inherited method y of the class owner, called by x's name on an object of class C -/
def YU (own : String) (idx : Nat) (C : String) (x y : MethodName) (cc : ByteArray) (maxL : Nat) (ret : Option FieldType) (na : Nat) : Prop := Cond.methodLink own idx x ∈ GW ∧ Cond.sameMethod x.cls x.cls x.name x.desc ∈ GW ∧ Cond.instanceMethod x ∈ GW ∧ (∃ b m r, Cond.code x b m r ∈ GW) ∧ (∀ (args : Array Value) (s : State), (∀ w ∈ GW, w.before args s = true) → (∀ z ∈ PVL, s.PrivateAt z) → (Cond.selects C x y).before args s = true) ∧ Cond.instanceMethod y ∈ GW ∧ Cond.initialized y.cls ∈ GW ∧ Cond.code y cc maxL ret ∈ GW ∧ (x.cls ≠ "java/lang/invoke/MethodHandle" ∧ x.cls ≠ "java/lang/invoke/VarHandle" ∧ (parseMethodDescriptor x.desc).map (fun d => d.parameters.length) = some na)
def YZ (own : String) (idx : Nat) (y : MethodName) (cc : ByteArray) (maxL : Nat) (ret : Option FieldType) (na : Nat) : Prop := Cond.methodLink own idx y ∈ GW ∧ Cond.sameMethod y.cls y.cls y.name y.desc ∈ GW ∧ Cond.superclass own y.cls ∈ GW ∧ Cond.instanceMethod y ∈ GW ∧ Cond.initialized y.cls ∈ GW ∧ Cond.code y cc maxL ret ∈ GW ∧ (y.name ≠ "<init>" ∧ (parseMethodDescriptor y.desc).map (fun d => d.parameters.length) = some na)
theorem cw_U {x : JX} {G : gT} {R : Room} {cc : ByteArray} {w0 : Cond} {own : String} {nL idx : Nat} (hC : JC x G R cc w0 own nL) {C : String} {x0 y : MethodName} {ccY : ByteArray} {maxLY na : Nat} {ret : Option FieldType} {rmY : Room} (hY : YU own idx C x0 y ccY maxLY ret na) (hR : rmY.frames + 1 ≤ R.frames ∧ 8 + (maxLY + 11) + rmY.locals ≤ R.locals) : va_CU (jR x) (js x) (ja x) own C x0.cls idx x0 y ccY maxLY ret (Cond.code y ccY maxLY ret :: GW) rmY rmY.cells rmY.slots na := by
  obtain ⟨h1, h2, h3, ⟨b, m, r, h4⟩, h5, h6, h7, h8, h9, h10, h11⟩ := hY
  have hRR : jR x = R := hC.2.2.2.2.2.2.2.1
  have ht0 := hC.2.2.2.2.1
  have W9 : ∀ w ∈ GW, w.before (ja x) (js x) = true := fun w h => ht0 w (List.mem_cons_of_mem _ h)
  refine ⟨⟨rfl, rfl, by rw [hRR]; exact hR.1, by rw [hRR]; exact hR.2, pay_in ht0 (gwI h8), List.mem_cons_self⟩, W9 _ h8, W9 _ h7, ⟨h9, h10⟩, fun sig h => ?_, W9 _ h1, W9 _ h2, va_Decl.of (W9 _ h3) (W9 _ h4), h5 _ _ W9 (JC_F hC).2.2.2.2.2.1, W9 _ h6⟩
  rw [h] at h11
  exact (Option.some.inj h11).symm
theorem cw_Z {x : JX} {G : gT} {R : Room} {cc : ByteArray} {w0 : Cond} {own : String} {nL idx : Nat} (hC : JC x G R cc w0 own nL) {y : MethodName} {ccY : ByteArray} {maxLY na : Nat} {ret : Option FieldType} {rmY : Room} (hY : YZ own idx y ccY maxLY ret na) (hR : rmY.frames + 1 ≤ R.frames ∧ 8 + (maxLY + 11) + rmY.locals ≤ R.locals) : va_CS (jR x) (js x) (ja x) own idx y ccY maxLY ret (Cond.code y ccY maxLY ret :: GW) rmY rmY.cells rmY.slots na := by
  obtain ⟨h1, h2, h3, h4, h5, h6, h7, h8⟩ := hY
  have hRR : jR x = R := hC.2.2.2.2.2.2.2.1
  have ht0 := hC.2.2.2.2.1
  have W9 : ∀ w ∈ GW, w.before (ja x) (js x) = true := fun w h => ht0 w (List.mem_cons_of_mem _ h)
  refine ⟨⟨rfl, rfl, by rw [hRR]; exact hR.1, by rw [hRR]; exact hR.2, pay_in ht0 (gwI h6), List.mem_cons_self⟩, W9 _ h1, W9 _ h2, W9 _ h3, W9 _ h4, W9 _ h5, W9 _ h6, h7, fun sig h => ?_⟩
  rw [h] at h8
  exact (Option.some.inj h8).symm
section JC80
variable {S : Type} {x : JX} {G : gT} {R : Room} {cc : ByteArray} {w0 : Cond} {own : String} {nL : Nat} {ws : va_W} {k n : Nat} {lv : List (Nat × Value)} {st rest : List Value} {pc : Nat}
variable {C : String} {idx maxLY na : Nat} {y x0 : MethodName} {ccY : ByteArray} {ret : Option FieldType} {rmY : Room} {As : List Value} {b : Nat}
theorem J_callVa {post : S → Prop} {ad : S → Nat} {W1 : S → va_W} {T : u_T} {N : Nat} {fs : List Value} (hC : JC x G R cc w0 own nL) (hd : decode cc pc = .ok (.invokevirtual idx, 3)) (hl : Cond.methodLink own idx y ∈ GW) (hY : YV y C ccY maxLY ret na)
    (hM : MA (jl x) y ccY maxLY ret rmY (.ref b :: As) G ws post ad W1)
    (hst : st = As.reverse ++ .ref b :: rest) (hna : As.length = na) (q ci : Nat) (hq : ws[q]? = some (b, .inr (ci, fs))) (hc : vwCl[ci]? = some (C, T, N))
    (hR : rmY.frames + 1 ≤ R.frames ∧ 8 + (maxLY + 11) + rmY.locals ≤ R.locals) (hcat : (rest.map fun v => v.category).sum ≤ 8) (hk : k + rmY.cells ≤ R.cells) (hn : n + rmY.slots ≤ R.slots)
    (kk : ∀ (u : S), post u → J x G (W1 u) (k + rmY.cells) (n + rmY.slots) lv (.ref (ad u) :: rest) (pc + 3)) : J x G ws k n lv st pc := by
  intro H locs ls hP hD hS hL
  have hK := hC.2.2.2.2.2.1
  have hRR : jR x = R := hC.2.2.2.2.2.2.2.1
  have hE := hC.2.2.2.2.2.2.2.2.2
  have hF := va_A_in hD hS hC.2.2.2.2.2.2.1
  have ht0 := hC.2.2.2.2.1
  refine va_callr (va_runV (As := As) (rest := rest) ⟨hC.1, hC.2.1, hC.2.2.1, hC.2.2.2.1, hC.2.2.2.2.1⟩ (hM H.size) (cwV na hC.2.2.2.2.1 (gwV hl hY.1 hY.2.1 hY.2.2.1 hY.2.2.2.1) rfl rfl rfl hY.2.2.2.2 (by rw [hRR]; exact hR)) ⟨gP_blind _ _ _ _, va_recv hK hP hc hq, fun U hU hW => ⟨rfl, by rw [hU], by rw [hU]; exact hP, va_K.moved hW.alike hK, hD.weaken (fun _ _ _ _ => trivial), hE.step hW (by rw [hU]; intro q hq hn; rw [hC.2.2.2.2.2.2.2.2.1] at hS; exact hS.2.1 q hq hn) hF⟩⟩ rfl hna (hL.1.trans hC.2.2.1) hst (lv_room hcat) hd (by rw [hRR]; exact ⟨hk, hn⟩)) hS (fun q _ h => hF q h) hF (fun u ra t H1 locs1 ht hvm hw hB hz hk1 hS1 => ?_)
  obtain ⟨rfl, hB⟩ := hB
  obtain ⟨hP1, hK1, hD1⟩ := hB
  rw [ht] at hP1
  exact kk u hw H1 locs1 ls hP1 (hD1.weaken (fun _ _ _ h => hF _ h)) hS1 hL
theorem J_callSa {post : S → Prop} {ad : S → Nat} {W1 : S → va_W} (hC : JC x G R cc w0 own nL) (hd : decode cc pc = .ok (.invokestatic idx, 3)) (hl : Cond.methodLink own idx y ∈ GW) (hio : Cond.initialized own ∈ GW) (hY : YS y C ccY maxLY ret na)
    (hM : MA (jl x) y ccY maxLY ret rmY As G ws post ad W1)
    (hst : st = As.reverse ++ rest) (hna : As.length = na) 
    (hR : rmY.frames + 1 ≤ R.frames ∧ 8 + (maxLY + 11) + rmY.locals ≤ R.locals) (hcat : (rest.map fun v => v.category).sum ≤ 8) (hk : k + rmY.cells ≤ R.cells) (hn : n + rmY.slots ≤ R.slots)
    (kk : ∀ (u : S), post u → J x G (W1 u) (k + rmY.cells) (n + rmY.slots) lv (.ref (ad u) :: rest) (pc + 3)) : J x G ws k n lv st pc := by
  intro H locs ls hP hD hS hL
  have hK := hC.2.2.2.2.2.1
  have hRR : jR x = R := hC.2.2.2.2.2.2.2.1
  have hE := hC.2.2.2.2.2.2.2.2.2
  have hF := va_A_in hD hS hC.2.2.2.2.2.2.1
  have ht0 := hC.2.2.2.2.1
  refine va_callr (va_runS (As := As) (rest := rest) ⟨hC.1, hC.2.1, hC.2.2.1, hC.2.2.2.1, hC.2.2.2.2.1⟩ (hM H.size) ⟨callB_of na ht0 (fun w hw => (gwS (w0 := w0) hl hY.1 hio hY.2.2.1) w (by unfold wsS; exact List.mem_append_right _ hw)) rfl rfl rfl (ht0 _ (List.mem_cons_of_mem _ (by rw [hY.2.2.2.1]; exact hY.2.1))) (ht0 _ (List.mem_cons_of_mem _ hl)) hY.2.2.2.2 (by rw [hRR]; exact hR), ht0 _ (List.mem_cons_of_mem _ hY.1)⟩ ⟨gP_blind _ _ _ _, fun U hU hW => ⟨rfl, by rw [hU], by rw [hU]; exact hP, va_K.moved hW.alike hK, hD.weaken (fun _ _ _ _ => trivial), hE.step hW (by rw [hU]; intro q hq hn; rw [hC.2.2.2.2.2.2.2.2.1] at hS; exact hS.2.1 q hq hn) hF⟩⟩ rfl hna (hL.1.trans hC.2.2.1) hst (lv_room hcat) hd (by rw [hRR]; exact ⟨hk, hn⟩)) hS (fun q _ h => hF q h) hF (fun u ra t H1 locs1 ht hvm hw hB hz hk1 hS1 => ?_)
  obtain ⟨rfl, hB⟩ := hB
  obtain ⟨hP1, hK1, hD1⟩ := hB
  rw [ht] at hP1
  exact kk u hw H1 locs1 ls hP1 (hD1.weaken (fun _ _ _ h => hF _ h)) hS1 hL
theorem J_callUi {post : Int32 → S → Prop} {W1 : S → va_W} {T : u_T} {N : Nat} {fs : List Value} (hC : JC x G R cc w0 own nL) (hd : decode cc pc = .ok (.invokevirtual idx, 3)) (hY : YU own idx C x0 y ccY maxLY ret na)
    (hM : MI (jl x) y ccY maxLY ret rmY (.ref b :: As) G ws post W1)
    (hst : st = As.reverse ++ .ref b :: rest) (hna : As.length = na) (q ci : Nat) (hq : ws[q]? = some (b, .inr (ci, fs))) (hc : vwCl[ci]? = some (C, T, N))
    (hR : rmY.frames + 1 ≤ R.frames ∧ 8 + (maxLY + 11) + rmY.locals ≤ R.locals) (hcat : (rest.map fun v => v.category).sum ≤ 8) (hk : k + rmY.cells ≤ R.cells) (hn : n + rmY.slots ≤ R.slots)
    (kk : ∀ (r : Int32) (u : S), post r u → J x G (W1 u) (k + rmY.cells) (n + rmY.slots) lv (.int r :: rest) (pc + 3)) : J x G ws k n lv st pc := by
  intro H locs ls hP hD hS hL
  have hK := hC.2.2.2.2.2.1
  have hRR : jR x = R := hC.2.2.2.2.2.2.2.1
  have hE := hC.2.2.2.2.2.2.2.2.2
  have hF := va_A_in hD hS hC.2.2.2.2.2.2.1
  have ht0 := hC.2.2.2.2.1
  refine va_calli (va_runU (As := As) (rest := rest) ⟨hC.1, hC.2.1, hC.2.2.1, hC.2.2.2.1, hC.2.2.2.2.1⟩ (hM H.size) (cw_U hC hY hR) ⟨gP_blind _ _ _ _, va_recv hK hP hc hq, fun U hU hW => ⟨rfl, by rw [hU], by rw [hU]; exact hP, va_K.moved hW.alike hK, hD.weaken (fun _ _ _ _ => trivial), hE.step hW (by rw [hU]; intro q hq hn; rw [hC.2.2.2.2.2.2.2.2.1] at hS; exact hS.2.1 q hq hn) hF⟩⟩ rfl hna (hL.1.trans hC.2.2.1) hst (lv_room hcat) hd (by rw [hRR]; exact ⟨hk, hn⟩)) hS (fun q _ h => hF q h) hF (fun r u t H1 locs1 ht hvm hw hB hz hk1 hS1 => ?_)
  obtain ⟨hP1, hK1, hD1⟩ := hB
  rw [ht] at hP1
  exact kk r u hw H1 locs1 ls hP1 (hD1.weaken (fun _ _ _ h => hF _ h)) hS1 hL
theorem J_callUv {post : S → Prop} {W1 : S → va_W} {T : u_T} {N : Nat} {fs : List Value} (hC : JC x G R cc w0 own nL) (hd : decode cc pc = .ok (.invokevirtual idx, 3)) (hY : YU own idx C x0 y ccY maxLY none na)
    (hM : MV (jl x) y ccY maxLY rmY (.ref b :: As) G ws post W1)
    (hst : st = As.reverse ++ .ref b :: rest) (hna : As.length = na) (q ci : Nat) (hq : ws[q]? = some (b, .inr (ci, fs))) (hc : vwCl[ci]? = some (C, T, N))
    (hR : rmY.frames + 1 ≤ R.frames ∧ 8 + (maxLY + 11) + rmY.locals ≤ R.locals) (hcat : (rest.map fun v => v.category).sum ≤ 8) (hk : k + rmY.cells ≤ R.cells) (hn : n + rmY.slots ≤ R.slots)
    (kk : ∀ (u : S), post u → J x G (W1 u) (k + rmY.cells) (n + rmY.slots) lv rest (pc + 3)) : J x G ws k n lv st pc := by
  intro H locs ls hP hD hS hL
  have hK := hC.2.2.2.2.2.1
  have hRR : jR x = R := hC.2.2.2.2.2.2.2.1
  have hE := hC.2.2.2.2.2.2.2.2.2
  have hF := va_A_in hD hS hC.2.2.2.2.2.2.1
  have ht0 := hC.2.2.2.2.1
  refine va_callv (va_runU (As := As) (rest := rest) ⟨hC.1, hC.2.1, hC.2.2.1, hC.2.2.2.1, hC.2.2.2.2.1⟩ (hM H.size) (cw_U hC hY hR) ⟨gP_blind _ _ _ _, va_recv hK hP hc hq, fun U hU hW => ⟨rfl, by rw [hU], by rw [hU]; exact hP, va_K.moved hW.alike hK, hD.weaken (fun _ _ _ _ => trivial), hE.step hW (by rw [hU]; intro q hq hn; rw [hC.2.2.2.2.2.2.2.2.1] at hS; exact hS.2.1 q hq hn) hF⟩⟩ rfl hna (hL.1.trans hC.2.2.1) hst (lv_room hcat) hd (by rw [hRR]; exact ⟨hk, hn⟩)) hS (fun q _ h => hF q h) hF (fun u t H1 locs1 ht hvm hw hB hz hk1 hS1 => ?_)
  obtain ⟨hP1, hK1, hD1⟩ := hB
  rw [ht] at hP1
  exact kk u hw H1 locs1 ls hP1 (hD1.weaken (fun _ _ _ h => hF _ h)) hS1 hL
theorem J_callUa {post : S → Prop} {ad : S → Nat} {W1 : S → va_W} {T : u_T} {N : Nat} {fs : List Value} (hC : JC x G R cc w0 own nL) (hd : decode cc pc = .ok (.invokevirtual idx, 3)) (hY : YU own idx C x0 y ccY maxLY ret na)
    (hM : MA (jl x) y ccY maxLY ret rmY (.ref b :: As) G ws post ad W1)
    (hst : st = As.reverse ++ .ref b :: rest) (hna : As.length = na) (q ci : Nat) (hq : ws[q]? = some (b, .inr (ci, fs))) (hc : vwCl[ci]? = some (C, T, N))
    (hR : rmY.frames + 1 ≤ R.frames ∧ 8 + (maxLY + 11) + rmY.locals ≤ R.locals) (hcat : (rest.map fun v => v.category).sum ≤ 8) (hk : k + rmY.cells ≤ R.cells) (hn : n + rmY.slots ≤ R.slots)
    (kk : ∀ (u : S), post u → J x G (W1 u) (k + rmY.cells) (n + rmY.slots) lv (.ref (ad u) :: rest) (pc + 3)) : J x G ws k n lv st pc := by
  intro H locs ls hP hD hS hL
  have hK := hC.2.2.2.2.2.1
  have hRR : jR x = R := hC.2.2.2.2.2.2.2.1
  have hE := hC.2.2.2.2.2.2.2.2.2
  have hF := va_A_in hD hS hC.2.2.2.2.2.2.1
  have ht0 := hC.2.2.2.2.1
  refine va_callr (va_runU (As := As) (rest := rest) ⟨hC.1, hC.2.1, hC.2.2.1, hC.2.2.2.1, hC.2.2.2.2.1⟩ (hM H.size) (cw_U hC hY hR) ⟨gP_blind _ _ _ _, va_recv hK hP hc hq, fun U hU hW => ⟨rfl, by rw [hU], by rw [hU]; exact hP, va_K.moved hW.alike hK, hD.weaken (fun _ _ _ _ => trivial), hE.step hW (by rw [hU]; intro q hq hn; rw [hC.2.2.2.2.2.2.2.2.1] at hS; exact hS.2.1 q hq hn) hF⟩⟩ rfl hna (hL.1.trans hC.2.2.1) hst (lv_room hcat) hd (by rw [hRR]; exact ⟨hk, hn⟩)) hS (fun q _ h => hF q h) hF (fun u ra t H1 locs1 ht hvm hw hB hz hk1 hS1 => ?_)
  obtain ⟨rfl, hB⟩ := hB
  obtain ⟨hP1, hK1, hD1⟩ := hB
  rw [ht] at hP1
  exact kk u hw H1 locs1 ls hP1 (hD1.weaken (fun _ _ _ h => hF _ h)) hS1 hL
theorem J_callZa {post : S → Prop} {ad : S → Nat} {W1 : S → va_W} {T : u_T} {N : Nat} {fs : List Value} (hC : JC x G R cc w0 own nL) (hd : decode cc pc = .ok (.invokespecial idx, 3)) (hY : YZ own idx y ccY maxLY ret na)
    (hM : MA (jl x) y ccY maxLY ret rmY (.ref b :: As) G ws post ad W1)
    (hst : st = As.reverse ++ .ref b :: rest) (hna : As.length = na) (q ci : Nat) (hq : ws[q]? = some (b, .inr (ci, fs))) (hc : vwCl[ci]? = some (C, T, N))
    (hR : rmY.frames + 1 ≤ R.frames ∧ 8 + (maxLY + 11) + rmY.locals ≤ R.locals) (hcat : (rest.map fun v => v.category).sum ≤ 8) (hk : k + rmY.cells ≤ R.cells) (hn : n + rmY.slots ≤ R.slots)
    (kk : ∀ (u : S), post u → J x G (W1 u) (k + rmY.cells) (n + rmY.slots) lv (.ref (ad u) :: rest) (pc + 3)) : J x G ws k n lv st pc := by
  intro H locs ls hP hD hS hL
  have hK := hC.2.2.2.2.2.1
  have hRR : jR x = R := hC.2.2.2.2.2.2.2.1
  have hE := hC.2.2.2.2.2.2.2.2.2
  have hF := va_A_in hD hS hC.2.2.2.2.2.2.1
  have ht0 := hC.2.2.2.2.1
  refine va_callr (va_runSU (As := As) (rest := rest) (hK.1 ci _ hc).2 ⟨hC.1, hC.2.1, hC.2.2.1, hC.2.2.2.1, hC.2.2.2.2.1⟩ (hM H.size) (cw_Z hC hY hR) ⟨gP_blind _ _ _ _, va_recv hK hP hc hq, fun U hU hW => ⟨rfl, by rw [hU], by rw [hU]; exact hP, va_K.moved hW.alike hK, hD.weaken (fun _ _ _ _ => trivial), hE.step hW (by rw [hU]; intro q hq hn; rw [hC.2.2.2.2.2.2.2.2.1] at hS; exact hS.2.1 q hq hn) hF⟩⟩ rfl hna (hL.1.trans hC.2.2.1) hst (lv_room hcat) hd (by rw [hRR]; exact ⟨hk, hn⟩)) hS (fun q _ h => hF q h) hF (fun u ra t H1 locs1 ht hvm hw hB hz hk1 hS1 => ?_)
  obtain ⟨rfl, hB⟩ := hB
  obtain ⟨hP1, hK1, hD1⟩ := hB
  rw [ht] at hP1
  exact kk u hw H1 locs1 ls hP1 (hD1.weaken (fun _ _ _ h => hF _ h)) hS1 hL
theorem J_callZi {post : Int32 → S → Prop} {W1 : S → va_W} {T : u_T} {N : Nat} {fs : List Value} (hC : JC x G R cc w0 own nL) (hd : decode cc pc = .ok (.invokespecial idx, 3)) (hY : YZ own idx y ccY maxLY ret na)
    (hM : MI (jl x) y ccY maxLY ret rmY (.ref b :: As) G ws post W1)
    (hst : st = As.reverse ++ .ref b :: rest) (hna : As.length = na) (q ci : Nat) (hq : ws[q]? = some (b, .inr (ci, fs))) (hc : vwCl[ci]? = some (C, T, N))
    (hR : rmY.frames + 1 ≤ R.frames ∧ 8 + (maxLY + 11) + rmY.locals ≤ R.locals) (hcat : (rest.map fun v => v.category).sum ≤ 8) (hk : k + rmY.cells ≤ R.cells) (hn : n + rmY.slots ≤ R.slots)
    (kk : ∀ (r : Int32) (u : S), post r u → J x G (W1 u) (k + rmY.cells) (n + rmY.slots) lv (.int r :: rest) (pc + 3)) : J x G ws k n lv st pc := by
  intro H locs ls hP hD hS hL
  have hK := hC.2.2.2.2.2.1
  have hRR : jR x = R := hC.2.2.2.2.2.2.2.1
  have hE := hC.2.2.2.2.2.2.2.2.2
  have hF := va_A_in hD hS hC.2.2.2.2.2.2.1
  have ht0 := hC.2.2.2.2.1
  refine va_calli (va_runSU (As := As) (rest := rest) (hK.1 ci _ hc).2 ⟨hC.1, hC.2.1, hC.2.2.1, hC.2.2.2.1, hC.2.2.2.2.1⟩ (hM H.size) (cw_Z hC hY hR) ⟨gP_blind _ _ _ _, va_recv hK hP hc hq, fun U hU hW => ⟨rfl, by rw [hU], by rw [hU]; exact hP, va_K.moved hW.alike hK, hD.weaken (fun _ _ _ _ => trivial), hE.step hW (by rw [hU]; intro q hq hn; rw [hC.2.2.2.2.2.2.2.2.1] at hS; exact hS.2.1 q hq hn) hF⟩⟩ rfl hna (hL.1.trans hC.2.2.1) hst (lv_room hcat) hd (by rw [hRR]; exact ⟨hk, hn⟩)) hS (fun q _ h => hF q h) hF (fun r u t H1 locs1 ht hvm hw hB hz hk1 hS1 => ?_)
  obtain ⟨hP1, hK1, hD1⟩ := hB
  rw [ht] at hP1
  exact kk r u hw H1 locs1 ls hP1 (hD1.weaken (fun _ _ _ h => hF _ h)) hS1 hL
end JC80
/-! words of inherited and private methods -/
theorem wsm_J5_append_cf1ce : Cond.sameMethod yJ5_append_cf1ce.cls yJ5_append_cf1ce.cls yJ5_append_cf1ce.name yJ5_append_cf1ce.desc ∈ GW := gw_at5 144 (by decide +kernel) (by decide +kernel)
theorem wsc_J4 : Cond.superclass RJ4 RJ5 ∈ GW := gw_at5 153 (by decide +kernel) (by decide +kernel)
theorem wsm_J5_isLatin1_aae02 : Cond.sameMethod yJ5_isLatin1_aae02.cls yJ5_isLatin1_aae02.cls yJ5_isLatin1_aae02.name yJ5_isLatin1_aae02.desc ∈ GW := gw_at5 189 (by decide +kernel) (by decide +kernel)
theorem wsm_J5_getValue_6d5f1 : Cond.sameMethod yJ5_getValue_6d5f1.cls yJ5_getValue_6d5f1.cls yJ5_getValue_6d5f1.name yJ5_getValue_6d5f1.desc ∈ GW := gw_at6 76 (by decide +kernel) (by decide +kernel)
theorem wsm_J5_length_8abf5 : Cond.sameMethod yJ5_length_8abf5.cls yJ5_length_8abf5.cls yJ5_length_8abf5.name yJ5_length_8abf5.desc ∈ GW := gw_at6 81 (by decide +kernel) (by decide +kernel)
theorem wsm_J5_appendNull_278bc : Cond.sameMethod yJ5_appendNull_278bc.cls yJ5_appendNull_278bc.cls yJ5_appendNull_278bc.name yJ5_appendNull_278bc.desc ∈ GW := gw_at6 188 (by decide +kernel) (by decide +kernel)
theorem wsm_J5_ensureCapacityInternal_d00df : Cond.sameMethod yJ5_ensureCapacityInternal_d00df.cls yJ5_ensureCapacityInternal_d00df.cls yJ5_ensureCapacityInternal_d00df.name yJ5_ensureCapacityInternal_d00df.desc ∈ GW := gw_at6 189 (by decide +kernel) (by decide +kernel)
theorem wsm_J5_newCapacity_0f7a4 : Cond.sameMethod yJ5_newCapacity_0f7a4.cls yJ5_newCapacity_0f7a4.cls yJ5_newCapacity_0f7a4.name yJ5_newCapacity_0f7a4.desc ∈ GW := gw_at6 190 (by decide +kernel) (by decide +kernel)
theorem wsm_J5_putStringAt_47b60 : Cond.sameMethod yJ5_putStringAt_47b60.cls yJ5_putStringAt_47b60.cls yJ5_putStringAt_47b60.name yJ5_putStringAt_47b60.desc ∈ GW := gw_at6 191 (by decide +kernel) (by decide +kernel)
theorem wsm_J5_inflateIfNeededFor_a7421 : Cond.sameMethod yJ5_inflateIfNeededFor_a7421.cls yJ5_inflateIfNeededFor_a7421.cls yJ5_inflateIfNeededFor_a7421.name yJ5_inflateIfNeededFor_a7421.desc ∈ GW := gw_at6 192 (by decide +kernel) (by decide +kernel)
theorem wsm_J5_inflate_da8c8 : Cond.sameMethod yJ5_inflate_da8c8.cls yJ5_inflate_da8c8.cls yJ5_inflate_da8c8.name yJ5_inflate_da8c8.desc ∈ GW := gw_at6 193 (by decide +kernel) (by decide +kernel)
theorem wsm_J5_append_c97b9 : Cond.sameMethod yJ5_append_c97b9.cls yJ5_append_c97b9.cls yJ5_append_c97b9.name yJ5_append_c97b9.desc ∈ GW := gw_at6 194 (by decide +kernel) (by decide +kernel)
theorem wsm_J5_append_3fe6f : Cond.sameMethod yJ5_append_3fe6f.cls yJ5_append_3fe6f.cls yJ5_append_3fe6f.name yJ5_append_3fe6f.desc ∈ GW := gw_at6 195 (by decide +kernel) (by decide +kernel)
theorem wcl_link : Cond.methodLink "java/util/Arrays" 310 ⟨"[B","clone","()Ljava/lang/Object;"⟩ ∈ GW := gw_at5 178 (by decide +kernel) (by decide +kernel)
theorem wcl_same : Cond.sameMethod "[B" "java/lang/Object" "clone" "()Ljava/lang/Object;" ∈ GW := gw_at5 179 (by decide +kernel) (by decide +kernel)
theorem wcl_nat : Cond.native ⟨"java/lang/Object","clone","()Ljava/lang/Object;"⟩ ∈ GW := gw_at5 180 (by decide +kernel) (by decide +kernel)
theorem wcl_inst : Cond.instanceMethod ⟨"java/lang/Object","clone","()Ljava/lang/Object;"⟩ ∈ GW := gw_at5 181 (by decide +kernel) (by decide +kernel)
theorem wcl_sel : Cond.selects "[B" ⟨"[B","clone","()Ljava/lang/Object;"⟩ ⟨"java/lang/Object","clone","()Ljava/lang/Object;"⟩ ∈ GW := gw_at5 182 (by decide +kernel) (by decide +kernel)
theorem wcl_cls : Cond.classLink "java/util/Arrays" 311 "[B" ∈ GW := gw_at5 184 (by decide +kernel) (by decide +kernel)
theorem wc_X11_with : Cond.code yX11_with cX11_with 4 (some (FieldType.array (FieldType.array FieldType.int))) ∈ GW := gw_at4 89 (by decide +kernel) (by decide +kernel)
theorem wc_X11_without : Cond.code yX11_without cX11_without 4 (some (FieldType.array (FieldType.array FieldType.int))) ∈ GW := gw_at4 100 (by decide +kernel) (by decide +kernel)
theorem yu_J5_43 : YU RJ5 43 RJ4 yJ5_append_cf1ce yJ4_append_cf1ce cJ4_append_cf1ce 2 ((some (FieldType.object "java/lang/AbstractStringBuilder"))) 1 := ⟨wl_J5_43, wsm_J5_append_cf1ce, wn_J5_append_cf1ce, ⟨_, _, _, wc_J5_append_cf1ce⟩, fun args s h _ => h _ we_J5_append_cf1ce, wn_J4_append_cf1ce, wi_J4, wc_J4_append_cf1ce, by decide +kernel⟩
theorem yu_J5_83 : YU RJ5 83 RJ4 yJ5_isLatin1_aae02 yJ5_isLatin1_aae02 cJ5_isLatin1_aae02 1 ((some FieldType.boolean)) 0 := ⟨wl_J5_83, wsm_J5_isLatin1_aae02, wn_J5_isLatin1_aae02, ⟨_, _, _, wc_J5_isLatin1_aae02⟩, fun args s h _ => h _ we_J5_isLatin1_aae02, wn_J5_isLatin1_aae02, wi_J5, wc_J5_isLatin1_aae02, by decide +kernel⟩
theorem yu_J5_100 : YU RJ5 100 RJ4 yJ5_ensureCapacityInternal_d00df yJ5_ensureCapacityInternal_d00df cJ5_ensureCapacityInternal_d00df 3 none 1 := ⟨wl_J5_100, wsm_J5_ensureCapacityInternal_d00df, wn_J5_ensureCapacityInternal_d00df, ⟨_, _, _, wc_J5_ensureCapacityInternal_d00df⟩, fun args s h hp => sel_up (h _ we_J5_isLatin1_aae02) rfl (by decide) (hp _ (by simp [PVL])) (h _ wn_J5_ensureCapacityInternal_d00df), wn_J5_ensureCapacityInternal_d00df, wi_J5, wc_J5_ensureCapacityInternal_d00df, by decide +kernel⟩
theorem yu_J5_104 : YU RJ5 104 RJ4 yJ5_newCapacity_0f7a4 yJ5_newCapacity_0f7a4 cJ5_newCapacity_0f7a4 6 ((some FieldType.int)) 1 := ⟨wl_J5_104, wsm_J5_newCapacity_0f7a4, wn_J5_newCapacity_0f7a4, ⟨_, _, _, wc_J5_newCapacity_0f7a4⟩, fun args s h hp => sel_up (h _ we_J5_isLatin1_aae02) rfl (by decide) (hp _ (by simp [PVL])) (h _ wn_J5_newCapacity_0f7a4), wn_J5_newCapacity_0f7a4, wi_J5, wc_J5_newCapacity_0f7a4, by decide +kernel⟩
theorem yu_J5_208 : YU RJ5 208 RJ4 yJ5_putStringAt_47b60 yJ5_putStringAt_47b60 cJ5_putStringAt_47b60 3 none 2 := ⟨wl_J5_208, wsm_J5_putStringAt_47b60, wn_J5_putStringAt_47b60, ⟨_, _, _, wc_J5_putStringAt_47b60⟩, fun args s h hp => sel_up (h _ we_J5_isLatin1_aae02) rfl (by decide) (hp _ (by simp [PVL])) (h _ wn_J5_putStringAt_47b60), wn_J5_putStringAt_47b60, wi_J5, wc_J5_putStringAt_47b60, by decide +kernel⟩
theorem yu_J5_397 : YU RJ5 397 RJ4 yJ5_inflateIfNeededFor_a7421 yJ5_inflateIfNeededFor_a7421 cJ5_inflateIfNeededFor_a7421 2 none 1 := ⟨wl_J5_397, wsm_J5_inflateIfNeededFor_a7421, wn_J5_inflateIfNeededFor_a7421, ⟨_, _, _, wc_J5_inflateIfNeededFor_a7421⟩, fun args s h hp => sel_up (h _ we_J5_isLatin1_aae02) rfl (by decide) (hp _ (by simp [PVL])) (h _ wn_J5_inflateIfNeededFor_a7421), wn_J5_inflateIfNeededFor_a7421, wi_J5, wc_J5_inflateIfNeededFor_a7421, by decide +kernel⟩
theorem yu_J0_549 : YU RJ0 549 RJ4 yJ5_length_8abf5 yJ4_length_8abf5 cJ4_length_8abf5 1 ((some FieldType.int)) 0 := ⟨wl_J0_549, wsm_J5_length_8abf5, wn_J5_length_8abf5, ⟨_, _, _, wc_J5_length_8abf5⟩, fun args s h _ => h _ we_J5_length_8abf5, wn_J4_length_8abf5, wi_J4, wc_J4_length_8abf5, by decide +kernel⟩
theorem yu_J0_552 : YU RJ0 552 RJ4 yJ5_getValue_6d5f1 yJ5_getValue_6d5f1 cJ5_getValue_6d5f1 1 ((some (FieldType.array FieldType.byte))) 0 := ⟨wl_J0_552, wsm_J5_getValue_6d5f1, wn_J5_getValue_6d5f1, ⟨_, _, _, wc_J5_getValue_6d5f1⟩, fun args s h _ => h _ we_J5_getValue_6d5f1, wn_J5_getValue_6d5f1, wi_J5, wc_J5_getValue_6d5f1, by decide +kernel⟩
theorem yu_J0_1047 : YU RJ0 1047 RJ4 yJ5_isLatin1_aae02 yJ5_isLatin1_aae02 cJ5_isLatin1_aae02 1 ((some FieldType.boolean)) 0 := ⟨wl_J0_1047, wsm_J5_isLatin1_aae02, wn_J5_isLatin1_aae02, ⟨_, _, _, wc_J5_isLatin1_aae02⟩, fun args s h _ => h _ we_J5_isLatin1_aae02, wn_J5_isLatin1_aae02, wi_J5, wc_J5_isLatin1_aae02, by decide +kernel⟩
theorem yz_J4_29 : YZ RJ4 29 yJ5_append_cf1ce cJ5_append_cf1ce 3 ((some (FieldType.object "java/lang/AbstractStringBuilder"))) 1 := ⟨wl_J4_29, wsm_J5_append_cf1ce, wsc_J4, wn_J5_append_cf1ce, wi_J5, wc_J5_append_cf1ce, by decide +kernel⟩
theorem yz_J4_50 : YZ RJ4 50 yJ5_append_3fe6f cJ5_append_3fe6f 2 ((some (FieldType.object "java/lang/AbstractStringBuilder"))) 1 := ⟨wl_J4_50, wsm_J5_append_3fe6f, wsc_J4, wn_J5_append_3fe6f, wi_J5, wc_J5_append_3fe6f, by decide +kernel⟩
theorem yz_J4_53 : YZ RJ4 53 yJ5_append_c97b9 cJ5_append_c97b9 4 ((some (FieldType.object "java/lang/AbstractStringBuilder"))) 1 := ⟨wl_J4_53, wsm_J5_append_c97b9, wsc_J4, wn_J5_append_c97b9, wi_J5, wc_J5_append_c97b9, by decide +kernel⟩
theorem yz_J4_343 : YZ RJ4 343 yJ5_length_8abf5 cJ5_length_8abf5 1 ((some FieldType.int)) 0 := ⟨wl_J4_343, wsm_J5_length_8abf5, wsc_J4, wn_J5_length_8abf5, wi_J5, wc_J5_length_8abf5, by decide +kernel⟩
theorem yi_J4_append_15ec4 : YV yJ4_append_15ec4 RJ4 cJ4_append_15ec4 2 ((some (FieldType.object "java/lang/StringBuilder"))) 1 := ⟨wn_J4_append_15ec4, we_J4_append_15ec4, wi_J4, wc_J4_append_15ec4, by decide +kernel⟩
theorem yi_J4_append_cf468 : YV yJ4_append_cf468 RJ4 cJ4_append_cf468 2 ((some (FieldType.object "java/lang/StringBuilder"))) 1 := ⟨wn_J4_append_cf468, we_J4_append_cf468, wi_J4, wc_J4_append_cf468, by decide +kernel⟩
theorem yi_J4_append_bf812 : YV yJ4_append_bf812 RJ4 cJ4_append_bf812 2 ((some (FieldType.object "java/lang/StringBuilder"))) 1 := ⟨wn_J4_append_bf812, we_J4_append_bf812, wi_J4, wc_J4_append_bf812, by decide +kernel⟩
theorem yi_J4_toString_0e30d : YV yJ4_toString_0e30d RJ4 cJ4_toString_0e30d 1 ((some (FieldType.object "java/lang/String"))) 0 := ⟨wn_J4_toString_0e30d, we_J4_toString_0e30d, wi_J4, wc_J4_toString_0e30d, by decide +kernel⟩
theorem yi_J0_getBytes_840e7 : YV yJ0_getBytes_840e7 "java/lang/String" cJ0_getBytes_840e7 4 none 3 := ⟨wn_J0_getBytes_840e7, we_J0_getBytes_840e7, wi_J0, wc_J0_getBytes_840e7, by decide +kernel⟩
theorem yi_J8_newLength_cabcc : YS yJ8_newLength_cabcc RJ8 cJ8_newLength_cabcc 4 ((some FieldType.int)) 3 := ⟨wst_J8_newLength_cabcc, wi_J8, wc_J8_newLength_cabcc, by decide +kernel⟩
theorem yi_J7_copyOf_9075b : YS yJ7_copyOf_9075b RJ7 cJ7_copyOf_9075b 3 ((some (FieldType.array FieldType.byte))) 2 := ⟨wst_J7_copyOf_9075b, wi_J7, wc_J7_copyOf_9075b, by decide +kernel⟩
theorem yi_J7_copyOfRange_39247 : YS yJ7_copyOfRange_39247 RJ7 cJ7_copyOfRange_39247 3 ((some (FieldType.array FieldType.byte))) 3 := ⟨wst_J7_copyOfRange_39247, wi_J7, wc_J7_copyOfRange_39247, by decide +kernel⟩
theorem yi_J7_copyOfRangeByte_39247 : YS yJ7_copyOfRangeByte_39247 RJ7 cJ7_copyOfRangeByte_39247 5 ((some (FieldType.array FieldType.byte))) 3 := ⟨wst_J7_copyOfRangeByte_39247, wi_J7, wc_J7_copyOfRangeByte_39247, by decide +kernel⟩
theorem yi_J7_checkLength_df160 : YS yJ7_checkLength_df160 RJ7 cJ7_checkLength_df160 2 none 2 := ⟨wst_J7_checkLength_df160, wi_J7, wc_J7_checkLength_df160, by decide +kernel⟩
theorem yi_J6_stringSize_0f7a4 : YS yJ6_stringSize_0f7a4 RJ6 cJ6_stringSize_0f7a4 4 ((some FieldType.int)) 1 := ⟨wst_J6_stringSize_0f7a4, wi_J6, wc_J6_stringSize_0f7a4, by decide +kernel⟩
theorem yi_J6_getChars_ba4f3 : YS yJ6_getChars_ba4f3 RJ6 cJ6_getChars_ba4f3 7 ((some FieldType.int)) 3 := ⟨wst_J6_getChars_ba4f3, wi_J6, wc_J6_getChars_ba4f3, by decide +kernel⟩
theorem yi_J1_canEncode_fc78d : YS yJ1_canEncode_fc78d RJ1 cJ1_canEncode_fc78d 1 ((some FieldType.boolean)) 1 := ⟨wst_J1_canEncode_fc78d, wi_J1, wc_J1_canEncode_fc78d, by decide +kernel⟩
theorem yc_J4_init_a7421 : YC yJ4_init_a7421 cJ4_init_a7421 2 1 := ⟨wn_J4_init_a7421, wi_J4, wc_J4_init_a7421, by decide +kernel, by decide +kernel⟩
theorem yc_J5_init_a7421 : YC yJ5_init_a7421 cJ5_init_a7421 5 1 := ⟨wn_J5_init_a7421, wi_J5, wc_J5_init_a7421, by decide +kernel, by decide +kernel⟩
theorem yc_J0_init_81219 : YC yJ0_init_81219 cJ0_init_81219 2 1 := ⟨wn_J0_init_81219, wi_J0, wc_J0_init_81219, by decide +kernel, by decide +kernel⟩
theorem yc_J0_init_db425 : YC yJ0_init_db425 cJ0_init_db425 5 2 := ⟨wn_J0_init_db425, wi_J0, wc_J0_init_db425, by decide +kernel, by decide +kernel⟩
theorem yi_L_cell : YS yL_cell RL cL_cell 2 ((some FieldType.int)) 2 := ⟨wst_L_cell, wi_L, wc_L_cell, by decide +kernel⟩
theorem yi_L_odds : YS yL_odds RL cL_odds 2 ((some FieldType.int)) 2 := ⟨wst_L_odds, wi_L, wc_L_odds, by decide +kernel⟩
theorem yi_L_people : YS yL_people RL cL_people 2 ((some FieldType.int)) 2 := ⟨wst_L_people, wi_L, wc_L_people, by decide +kernel⟩
theorem yi_L_period : YS yL_period RL cL_period 2 ((some FieldType.int)) 2 := ⟨wst_L_period, wi_L, wc_L_period, by decide +kernel⟩
theorem yi_L_place : YS yL_place RL cL_place 2 ((some FieldType.int)) 2 := ⟨wst_L_place, wi_L, wc_L_place, by decide +kernel⟩
theorem yi_L_price : YS yL_price RL cL_price 2 ((some FieldType.int)) 2 := ⟨wst_L_price, wi_L, wc_L_price, by decide +kernel⟩
theorem yi_L_says : YS yL_says RL cL_says 5 none 2 := ⟨wst_L_says, wi_L, wc_L_says, by decide +kernel⟩
theorem yi_L_stock : YS yL_stock RL cL_stock 2 ((some FieldType.int)) 2 := ⟨wst_L_stock, wi_L, wc_L_stock, by decide +kernel⟩
theorem yi_L_text : YS yL_text RL cL_text 3 ((some (FieldType.object "java/lang/String"))) 1 := ⟨wst_L_text, wi_L, wc_L_text, by decide +kernel⟩
theorem yi_L_trust : YS yL_trust RL cL_trust 2 ((some FieldType.int)) 2 := ⟨wst_L_trust, wi_L, wc_L_trust, by decide +kernel⟩
theorem yi_X11_acts : YV yX11_acts RX11 cX11_acts 7 ((some FieldType.int)) 1 := ⟨wn_X11_acts, we_X11_acts, wi_X11, wc_X11_acts, by decide +kernel⟩
theorem yi_X11_agrees : YV yX11_agrees RX11 cX11_agrees 4 ((some FieldType.boolean)) 1 := ⟨wn_X11_agrees, we_X11_agrees, wi_X11, wc_X11_agrees, by decide +kernel⟩
theorem yi_X11_fair : YV yX11_fair RX11 cX11_fair 8 none 1 := ⟨wn_X11_fair, we_X11_fair, wi_X11, wc_X11_fair, by decide +kernel⟩
theorem yi_X11_find : YV yX11_find RX11 cX11_find 4 ((some FieldType.int)) 2 := ⟨wn_X11_find, we_X11_find, wi_X11, wc_X11_find, by decide +kernel⟩
theorem yi_X11_passes : YV yX11_passes RX11 cX11_passes 4 none 0 := ⟨wn_X11_passes, we_X11_passes, wi_X11, wc_X11_passes, by decide +kernel⟩
theorem yi_X11_remembers : YV yX11_remembers RX11 cX11_remembers 5 none 1 := ⟨wn_X11_remembers, we_X11_remembers, wi_X11, wc_X11_remembers, by decide +kernel⟩
theorem yi_X11_retracts : YV yX11_retracts RX11 cX11_retracts 5 ((some FieldType.int)) 1 := ⟨wn_X11_retracts, we_X11_retracts, wi_X11, wc_X11_retracts, by decide +kernel⟩
theorem yi_X11_weather : YV yX11_weather RX11 cX11_weather 6 none 1 := ⟨wn_X11_weather, we_X11_weather, wi_X11, wc_X11_weather, by decide +kernel⟩
theorem yi_X11_with : YS yX11_with RX11 cX11_with 4 ((some (FieldType.array (FieldType.array FieldType.int)))) 2 := ⟨wst_X11_with, wi_X11, wc_X11_with, by decide +kernel⟩
theorem yi_X11_without : YS yX11_without RX11 cX11_without 4 ((some (FieldType.array (FieldType.array FieldType.int)))) 2 := ⟨wst_X11_without, wi_X11, wc_X11_without, by decide +kernel⟩
theorem yc_X11_init : YC yX11_init cX11_init 3 1 := ⟨wn_X11_init, wi_X11, wc_X11_init, by decide +kernel, by decide +kernel⟩

/-! THE CLAIM OUT OF ONE WALK OF THE LAW'S BODY. Your part is whole_start (and what it stands on); all else here is the same for every law, but numbers. -/
def R_law : String := "AlmanacOfficeLaw"
def lw_P (b : Addr) (xs : List Int32) (args : Array Value) (s : State) : Prop := args = #[.ref b] ∧ s.IntsAt b xs ∧ xs.length ≤ 260 ∧ (Jvm.Cond.and given_1 narrow_1).before args s = true
def lw_Q (_ : Array Value) (s : State) (o : Outcome) (t : State) : Prop := o = .returned (some (.int 1)) ∧ Framed s o t [] 600086 7301442
def lw_Z (below : List Frame) (a : Array Value) (s : State) : State → Prop := fun t => ∃ o, t.status = .running ∧ Ended t below o ∧ lw_Q a s o t
/-- the law's own end, with 1 on the stack, nothing written that was there before, its room as the claim has it -/
theorem lw_ret {p : Program} {l : Launch} {e : Env} {s : State} {m : MethodId} {below : List Frame} {meth : Method} {c : Code} {b : Nat} (hx : p.tables.exec = Jvm.exec) (hb : c.code = code) (hr : meth.sig.returnType = ret) (hlocks : meth.locks = false) {pc : Nat} {H : Heap} {ls : Array Slot} (hdg : decode code pc = .ok (.ireturn, 1)) : W p l e room_1 s m #[Value.ref b] below meth c H [] 600086 7301442 (lw_Z below #[Value.ref b] s) (F0 m pc ls [.int 1]) := by
  intro T hT X
  obtain ⟨fs, hret, hrun, hended, hW, hframe⟩ := X.leave (v := some (.int 1)) (hlocks := hlocks) (fun h => by rw [hr] at h; cases h)
  have hmeth' : T.vm.method? m = some meth := X.method'
  refine ⟨T.setFrames fs, ?_, .returned (some (.int 1)), hrun, hended, rfl, ⟨_, rfl⟩, hW, hframe⟩
  jvm_step X.here [X.here.top, hx, hb, hdg, hmeth', hr, ret, narrow_b1]
  (try refine ⟨rfl, ?_⟩); (try refine ⟨rfl, ?_⟩)
  first | (intro acts; rw [hret _ acts rfl rfl rfl]) | rw [hret _ _ rfl rfl rfl]
  exact Steps.refl _
/-- what holds at the law's entry: the machine, the code, the tables' words (any of lw_tbl by 'hts w (by decide +kernel)'), the script of L ints xs at the cell b, what the Statement gives of the start (any of its parts by flat_of_before) -/
def lw_At (p : Program) (s : State) (m : MethodId) (meth : Method) (c : Code) (b L : Nat) (xs : Nat → Int32) : Prop :=
  p.tables.exec = Jvm.exec ∧ c.code = code ∧ meth.sig.returnType = ret ∧ c.maxLocals = 6 ∧ s.vm.findClass R_law = some m.cls ∧ (∀ w ∈ lw_tbl, w.before #[Value.ref b] s = true) ∧ va_X b L xs s s.heap ∧ b < s.heap.size ∧ meth.locks = false ∧ (Jvm.Cond.and given_1 narrow_1).before #[Value.ref b] s = true
/-! THE START: what the Statement gives, in this proof's own words -/
def FL : List Cond := flatC (Jvm.Cond.and given_1 narrow_1)
def SKp : List Nat := [255, 441, 453, 466, 477, 488, 500, 514, 530, 549, 566, 588, 611, 632]
abbrev tmS (i : Nat) : Term := .string (SKo.getD i "") (SKi.getD i 0)
abbrev tmV (i : Nat) : Term := .field (tmS i) "java/lang/String" "value" "[B"
abbrev tmD (nm : String) : Term := .static "java/lang/Integer" nm "[B"
theorem sk_tbl : ∀ i, i < 14 → Cond.stringRef (SKo.getD i "") (SKi.getD i 0) (SKt.getD i "") ∈ lw_tbl := by decide +kernel
theorem sk_ex : ∀ i, i < 14 → FL[SKp.getD i 0 - 4]? = some (Cond.exactly (tmS i) "java/lang/String") := by decide +kernel
theorem sk_co : ∀ i, i < 14 → FL[SKp.getD i 0 - 3]? = some (Cond.eq (.field (tmS i) "java/lang/String" "coder" "B") (.int 0)) := by decide +kernel
theorem sk_ar : ∀ i, i < 14 → FL[SKp.getD i 0 - 2]? = some (Cond.arrayOf (tmV i) .byte) := by decide +kernel
theorem sk_le : ∀ i, i < 14 → FL[SKp.getD i 0 - 1]? = some (Cond.eq (.length (tmV i)) (.int (Int32.ofNat (SKn.getD i 0)))) := by decide +kernel
theorem sk_el : ∀ i, i < 14 → (List.range (SKn.getD i 0)).map (fun j => Cond.eq (.elem (tmV i) (.int (Int32.ofNat j))) (.int ((SKb.getD i []).getD j 0))) = (FL.drop (SKp.getD i 0)).take (SKn.getD i 0) := by decide +kernel
theorem dg_a0 : FL[12]? = some (Cond.arrayOf (tmD "DigitOnes") .byte) := by decide +kernel
theorem dg_l0 : FL[13]? = some (Cond.eq (.length (tmD "DigitOnes")) (.int (Int32.ofNat 100))) := by decide +kernel
theorem dg_e0 : (List.range 100).map (fun j => Cond.eq (.elem (tmD "DigitOnes") (.int (Int32.ofNat j))) (.int (dgO j))) = (FL.drop 14).take 100 := by decide +kernel
theorem dg_a1 : FL[115]? = some (Cond.arrayOf (tmD "DigitTens") .byte) := by decide +kernel
theorem dg_l1 : FL[116]? = some (Cond.eq (.length (tmD "DigitTens")) (.int (Int32.ofNat 100))) := by decide +kernel
theorem dg_e1 : (List.range 100).map (fun j => Cond.eq (.elem (tmD "DigitTens") (.int (Int32.ofNat j))) (.int (dgT j))) = (FL.drop 117).take 100 := by decide +kernel
theorem fl_cs : FL[4]? = some (Cond.eq (.static "java/lang/String" "COMPACT_STRINGS" "Z") (.int 1)) := by decide +kernel
theorem fl_sf : FL[5]? = some (Cond.isRef (.static "jdk/internal/util/Preconditions" "SIOOBE_FORMATTER" "Ljava/util/function/BiFunction;")) := by decide +kernel
theorem fl_us : FL[9]? = some (Cond.isRef (.static Bundle.tN "UNASSIGNED_STACK" Bundle.steD)) := by decide +kernel
theorem fl_ss : FL[10]? = some (Cond.isRef (.static Bundle.tN "SUPPRESSED_SENTINEL" Bundle.listD)) := by decide +kernel
theorem nwl_tbl : ∀ w ∈ NWL, w ∈ lw_tbl := by decide +kernel
theorem twl_tbl : ∀ w ∈ TWL, w ∈ lw_tbl := by decide +kernel
theorem pvl_tbl : ∀ y ∈ PVL, Cond.privateMethod y ∈ lw_tbl := by decide +kernel
theorem oth_tbl : ∀ w ∈ [Cond.arrayOver (.object "AlmanacOffice$State"), .laysStatic Bundle.tN "UNASSIGNED_STACK" Bundle.steD, .laysStatic Bundle.tN "SUPPRESSED_SENTINEL" Bundle.listD, .initialized Bundle.tN, .laysStatic "java/lang/String" "COMPACT_STRINGS" "Z", .initialized "java/lang/String", .laysStatic "jdk/internal/util/Preconditions" "SIOOBE_FORMATTER" "Ljava/util/function/BiFunction;", .initialized "jdk/internal/util/Preconditions", .arrayOver (.array .int), .laysStatic "java/lang/Integer" "DigitOnes" "[B", .laysStatic "java/lang/Integer" "DigitTens" "[B", .initialized "java/lang/Integer", .castable "[B" "java/lang/Cloneable"], w ∈ lw_tbl := by decide +kernel
section START
variable {s : State} {b : Nat} {A : Nat → Prop}
theorem st_str (hts : ∀ w ∈ lw_tbl, w.before #[Value.ref b] s = true) (hs : ∀ w ∈ FL, w.before #[Value.ref b] s = true) (hA : ∀ a : Nat, a < s.heap.size → ¬ A a) : ∃ adK adV : Nat → Nat, (∀ i : Nat, i < 14 → vk_R (SKo.getD i "") (SKi.getD i 0) (SKt.getD i "") (adK i) s) ∧ vS adK adV A s s.heap := by
  have h0 : ∀ i : Nat, ∃ q : Nat × Nat, i < 14 → vk_R (SKo.getD i "") (SKi.getD i 0) (SKt.getD i "") q.1 s ∧ va_O "java/lang/String" q.1 A s s.heap ∧ va_OF "java/lang/String" "coder" "B" (.int 0) q.1 A s s.heap ∧ va_OF "java/lang/String" "value" "[B" (.ref q.2) q.1 A s s.heap ∧ va_T .byte q.2 (SKn.getD i 0) (fun j => .int ((SKb.getD i []).getD j 0)) A s s.heap := by
    intro i
    by_cases hi : i < 14
    · obtain ⟨a, c, cA, kA, q1, q2, q3, q4, q5, q6, -⟩ := Cond.exactly_spec (args := #[Value.ref b]) (first := s) (o := none) (s := s) (idx := []) (t := tmS i) (cls := "java/lang/String") (hs _ (List.mem_of_getElem? (sk_ex i hi)))
      have hn := SKn_le i hi
      obtain ⟨t, ht, hT⟩ := va_Tof (tm := tmV i) (f := fun j => .int ((SKb.getD i []).getD j 0)) (A := A) (N := SKn.getD i 0) (by omega) (hs _ (List.mem_of_getElem? (sk_ar i hi))) (va_eqt (hs _ (List.mem_of_getElem? (sk_le i hi)))) (fun j hj => va_eqt (hs _ (va_run (f := fun j => Cond.eq (.elem (tmV i) (.int (Int32.ofNat j))) (.int ((SKb.getD i []).getD j 0))) (sk_el i hi) j hj))) hA
      exact ⟨(a, t), fun _ => ⟨vk_R.of (hts _ (sk_tbl i hi)) q1, ⟨cA, q3, q5, by rw [q6]; exact q2, hA a (Array.getElem?_eq_some_iff.mp q3).1⟩, vk_OFof q1 (va_eqt (hs _ (List.mem_of_getElem? (sk_co i hi)))) hA, vk_OFof q1 ht hA, hT⟩⟩
    · exact ⟨(0, 0), fun h => absurd h hi⟩
  obtain ⟨ad, had⟩ := Classical.axiomOfChoice h0
  exact ⟨fun i => (ad i).1, fun i => (ad i).2, fun i hi => (had i hi).1, fun i hi => (had i hi).2⟩
theorem nI_ofv (v : Int32) : nI v.toBitVec.toNat = v := by
  apply Int32.toBitVec_inj.mp
  apply BitVec.eq_of_toNat_eq
  show v.toBitVec.toNat % 2 ^ 32 = _
  exact Nat.mod_eq_of_lt v.toBitVec.isLt
/-- the String constants' addresses, the script behind them -/
def adS (adK : Nat → Nat) (b L : Nat) (xs : Nat → Int32) : Nat → Nat := fun i => if i < 14 then adK i else if i = 14 then b else if i = 15 then L else (xs (i - 16)).toBitVec.toNat
theorem adS_lt {adK : Nat → Nat} {b L i : Nat} {xs : Nat → Int32} (h : i < 14) : adS adK b L xs i = adK i := if_pos h
theorem st_x (hts : ∀ w ∈ lw_tbl, w.before #[Value.ref b] s = true) (hs : ∀ w ∈ FL, w.before #[Value.ref b] s = true) (hA : ∀ a : Nat, a < s.heap.size → ¬ A a) {L : Nat} {xs : Nat → Int32} (hL : L < 2 ^ 31) (hX : va_X b L xs s s.heap) (hbl : b < s.heap.size) : ∃ adK adV : Nat → Nat, adK 14 = b ∧ adK 15 = L ∧ ∀ D C, xE (D, C, adK, adV) A s := by
  obtain ⟨adK, adV, h1, h2⟩ := st_str hts hs hA
  have ho := fun w hw => hts w (oth_tbl w hw)
  obtain ⟨t0, e0, d0⟩ := va_Tof (tm := tmD "DigitOnes") (f := fun j => .int (dgO j)) (A := A) (N := 100) (by decide) (hs _ (List.mem_of_getElem? dg_a0)) (va_eqt (hs _ (List.mem_of_getElem? dg_l0))) (fun j hj => va_eqt (hs _ (va_run (f := fun j => Cond.eq (.elem (tmD "DigitOnes") (.int (Int32.ofNat j))) (.int (dgO j))) dg_e0 j hj))) hA
  obtain ⟨t1, e1, d1⟩ := va_Tof (tm := tmD "DigitTens") (f := fun j => .int (dgT j)) (A := A) (N := 100) (by decide) (hs _ (List.mem_of_getElem? dg_a1)) (va_eqt (hs _ (List.mem_of_getElem? dg_l1))) (fun j hj => va_eqt (hs _ (va_run (f := fun j => Cond.eq (.elem (tmD "DigitTens") (.int (Int32.ofNat j))) (.int (dgT j))) dg_e1 j hj))) hA
  have hF : xF (adS adK b L xs) A s s.heap := by
    refine ⟨va_AO.of (ho _ (List.mem_of_getElem? (i := 0) rfl)), ho _ (List.mem_of_getElem? (i := 8) rfl), ⟨t0, va_Zof (ho _ (List.mem_of_getElem? (i := 9) rfl)) (ho _ (List.mem_of_getElem? (i := 11) rfl)) e0 hA, d0⟩, ⟨t1, va_Zof (ho _ (List.mem_of_getElem? (i := 10) rfl)) (ho _ (List.mem_of_getElem? (i := 11) rfl)) e1 hA, d1⟩, ?_, fun y hy => Cond.privateMethod_at (hts _ (pvl_tbl y hy)), va_Nw.of rfl (ho _ (List.mem_of_getElem? (i := 12) rfl))⟩
    obtain ⟨scr, g1, g2, g3, g4, g5⟩ := hX
    refine ⟨scr, g1, g2, g3, Nat.le_of_eq g4.symm, by rw [g4]; rfl, fun j hj => ?_, hA b hbl⟩
    have e : scX (adS adK b L xs) j = xs j := by
      show nI (if 16 + j < 14 then adK (16 + j) else if 16 + j = 14 then b else if 16 + j = 15 then L else (xs (16 + j - 16)).toBitVec.toNat) = _
      rw [if_neg (by omega), if_neg (by omega), if_neg (by omega), show 16 + j - 16 = j by omega]
      exact nI_ofv _
    show scr.slots[j]? = some (.int (scX (adS adK b L xs) j))
    rw [e]
    exact g5 j hj
  refine ⟨adS adK b L xs, adV, rfl, rfl, fun D C => ⟨fun w hw => ?_, hF, vx_Zqof (ho _ (List.mem_of_getElem? (i := 1) rfl)) (ho _ (List.mem_of_getElem? (i := 3) rfl)) (hs _ (List.mem_of_getElem? fl_us)) hA, vx_Zqof (ho _ (List.mem_of_getElem? (i := 2) rfl)) (ho _ (List.mem_of_getElem? (i := 3) rfl)) (hs _ (List.mem_of_getElem? fl_ss)) hA, va_Zof (ho _ (List.mem_of_getElem? (i := 4) rfl)) (ho _ (List.mem_of_getElem? (i := 5) rfl)) (va_eqt (hs _ (List.mem_of_getElem? fl_cs))) hA, va_Zqof (ho _ (List.mem_of_getElem? (i := 6) rfl)) (ho _ (List.mem_of_getElem? (i := 7) rfl)) (hs _ (List.mem_of_getElem? fl_sf)) hA, fun i hi => ?_, fun i hi => ?_⟩⟩
  · have hw' := hts w (nwl_tbl w hw)
    obtain ⟨a, i, y, hh, rfl⟩ := nwl_kind w hw
    exact va_Nw.of rfl hw'
  · show vk_R _ _ _ (adS adK b L xs i) s
    rw [adS_lt hi]
    exact h1 i hi
  · have h9 := h2 i hi
    have e : adS adK b L xs i = adK i := adS_lt hi
    rw [← e] at h9
    exact h9
theorem st_arr {ty : FieldType} (h : (Cond.arrayClass ty).before #[Value.ref b] s = true) : ∃ c : ClassId, ArrOfT s c ty ∧ s.vm.findClass ("[" ++ ty.toString) = some c := by
  obtain ⟨c, k, comp, h1, h2, h3⟩ := Cond.arrayClass_spec h
  exact ⟨c, fun N z => ⟨(fun k h => by cases h), k, h2, comp, h3⟩, h1⟩
theorem st_obj {C : String} (h : (Cond.arrayOver (.object C)).before #[Value.ref b] s = true) : ∃ c : ClassId, ArrOfT s c (.object C) ∧ va_RA s c (.object C) := by
  obtain ⟨comp, c, k, h1, h2, h3, h4, h5⟩ := Cond.arrayOver_spec h
  exact ⟨c, fun N z => ⟨(fun k h => by cases h), k, h3, comp, h4⟩, k, comp, h3, h4, h1, h5⟩
theorem st_objA (h : (Cond.arrayOver (.array .int)).before #[] s = true) : ∃ c : ClassId, ArrOfT s c (.array .int) ∧ va_RA s c (.array .int) := by
  obtain ⟨comp, c, k, h1, h2, h3, h4, h5⟩ := arrayOverA_spec h
  exact ⟨c, fun N z => ⟨(fun k h => by cases h), k, h3, comp, h4⟩, h5⟩
theorem st_cls (hts : ∀ w ∈ GW, w.before #[Value.ref b] s = true) : ∃ (dC : Nat → ClassId) (dI : Nat → Nat → Nat), ∀ (k : Nat) (q : vw_C), vwCl[k]? = some q → u_Kn s q.1 q.2.1 q.2.2 (dC k) (dI k) := by
  have h0 : ∀ k : Nat, ∃ q : ClassId × (Nat → Nat), ∀ r : vw_C, vwCl[k]? = some r → u_Kn s r.1 r.2.1 r.2.2 q.1 q.2 := by
    intro k
    match k with
    | 0 => obtain ⟨c, f, h⟩ := u_known hts wu_X0 (hts _ wt_X0); exact ⟨(c, f), fun r hr => by cases hr; exact h⟩
    | 1 => obtain ⟨c, f, h⟩ := u_known hts wu_X1 (hts _ wt_X1); exact ⟨(c, f), fun r hr => by cases hr; exact h⟩
    | 2 => obtain ⟨c, f, h⟩ := u_known hts wu_X2 (hts _ wt_X2); exact ⟨(c, f), fun r hr => by cases hr; exact h⟩
    | 3 => obtain ⟨c, f, h⟩ := u_known hts wu_X3 (hts _ wt_X3); exact ⟨(c, f), fun r hr => by cases hr; exact h⟩
    | 4 => obtain ⟨c, f, h⟩ := u_known hts wu_X4 (hts _ wt_X4); exact ⟨(c, f), fun r hr => by cases hr; exact h⟩
    | 5 => obtain ⟨c, f, h⟩ := u_known hts wu_X5 (hts _ wt_X5); exact ⟨(c, f), fun r hr => by cases hr; exact h⟩
    | 6 => obtain ⟨c, f, h⟩ := u_known hts wu_X6 (hts _ wt_X6); exact ⟨(c, f), fun r hr => by cases hr; exact h⟩
    | 7 => obtain ⟨c, f, h⟩ := u_known hts wu_X7 (hts _ wt_X7); exact ⟨(c, f), fun r hr => by cases hr; exact h⟩
    | 8 => obtain ⟨c, f, h⟩ := u_known hts wu_X8 (hts _ wt_X8); exact ⟨(c, f), fun r hr => by cases hr; exact h⟩
    | 9 => obtain ⟨c, f, h⟩ := u_known hts wu_X9 (hts _ wt_X9); exact ⟨(c, f), fun r hr => by cases hr; exact h⟩
    | 10 => obtain ⟨c, f, h⟩ := u_known hts wu_X10 (hts _ wt_X10); exact ⟨(c, f), fun r hr => by cases hr; exact h⟩
    | 11 => obtain ⟨c, f, h⟩ := u_known hts wu_X11 (hts _ wt_X11); exact ⟨(c, f), fun r hr => by cases hr; exact h⟩
    | 12 => obtain ⟨c, f, h⟩ := u_known hts wu_J0 (hts _ wt_J0); exact ⟨(c, f), fun r hr => by cases hr; exact h⟩
    | 13 => obtain ⟨c, f, h⟩ := u_known hts wu_J4 (hts _ wt_J4); exact ⟨(c, f), fun r hr => by cases hr; exact h⟩
    | k + 14 => exact ⟨(0, fun _ => 0), fun r hr => by cases hr⟩
  obtain ⟨f, hf⟩ := Classical.axiomOfChoice h0
  exact ⟨fun k => (f k).1, fun k => (f k).2, fun k q hq => hf k q hq⟩
theorem st_K (hts : ∀ w ∈ lw_tbl, w.before #[Value.ref b] s = true) : ∃ (D : va_G) (C : Nat → ClassId), ∀ adK adV, va_K D vwCl (tyl (D, C, adK, adV)) s := by
  have hg : ∀ w ∈ GW, w.before #[Value.ref b] s = true := fun w hw => hts w (List.mem_filter.mp hw).1
  obtain ⟨dC, dI, hK⟩ := st_cls hg
  obtain ⟨c0, a0, r0⟩ := st_arr (hg _ wa_int)
  obtain ⟨c1, a1, r1⟩ := st_arr (hg _ wa_byte)
  obtain ⟨c2, a2, r2⟩ := st_arr (hg _ wa_boolean)
  obtain ⟨c3, a3, r3⟩ := st_obj (hts _ (oth_tbl _ (List.mem_of_getElem? (i := 0) rfl)))
  obtain ⟨c4, a4, r4⟩ := st_objA (s := s) (hts _ (oth_tbl _ (List.mem_of_getElem? (i := 8) rfl)))
  refine ⟨(dC, dI), fun k => [c0, c1, c2, c3, c4].getD k 0, fun adK adV => ⟨hK, fun k q hq => ?_⟩⟩
  match k, hq with
  | 0, hq => cases hq; exact ⟨a0, r0⟩
  | 1, hq => cases hq; exact ⟨a1, r1⟩
  | 2, hq => cases hq; exact ⟨a2, r2⟩
  | 3, hq => cases hq; exact ⟨a3, r3⟩
  | 4, hq => cases hq; exact ⟨a4, r4⟩
  | k + 5, hq => cases hq
end START
set_option maxHeartbeats 4000000 in
/-- from the entry, for every script, the law comes to its end with true -/
theorem whole_start {p : Program} {e : Env} {s : State} {m : MethodId} {below : List Frame} {meth : Method} {c : Code} (l : Launch) (hflags : l.flags = flags0) {b L : Nat} {xs : Nat → Int32} (hL : L ≤ 260) (C0 : lw_At p s m meth c b L xs) : W p l e room_1 s m #[Value.ref b] below meth c s.heap [] 0 0 (lw_Z below #[Value.ref b] s) (entryFrame m ([Value.ref b] : List Value).toArray 6) := by
  obtain ⟨hx, hb, hr, hml, hown, hts, hXa, hbl, hlocks, hgv⟩ := C0
  have hA : ∀ a : Nat, a < s.heap.size → ¬ (fun q : Nat => s.heap.size ≤ q) a := fun a h => Nat.not_le.mpr h
  have hs : ∀ w ∈ FL, w.before #[Value.ref b] s = true := flat_of_before _ hgv
  obtain ⟨adK, adV, eb, eL, hE⟩ := st_x hts hs hA (by omega) hXa hbl
  obtain ⟨D, C, hK⟩ := st_K hts
  have hC : JC (p, l, e, room_1, s, m, #[Value.ref b], below, meth, c, (fun q : Nat => s.heap.size ≤ q), s.heap, lw_Z below #[Value.ref b] s) (D, C, adK, adV) RM1 cL_law (Cond.initialized RX10) RL 6 :=
    ⟨hx, hb, hml, hown, fun w hw => by
      rcases List.mem_cons.mp hw with rfl | h
      · exact hts _ (List.mem_filter.mp wi_X10).1
      · exact hts _ (List.mem_filter.mp h).1, hK adK adV, fun q h => h, rfl, rfl, hE D C⟩
  have hst : l.stackTraces = false := by first | exact stackTraces_of_flags hflags | (unfold Launch.stackTraces; rw [hflags]; rfl)
  have hgo := law_go hC hst (fun w hw => va_Nw.of (twl_tab w hw) (hts w (twl_tbl w hw))) (fun q hq => absurd hq List.not_mem_nil) (by show adK 15 < 2 ^ 31; omega) (fun ws k n lv hk hn => by
    refine J_iconst (v := 1) hC dL_law_138 rfl ?_
    intro H locs ls hP hD hS hLv
    exact va_forget (fun q hq => hS.2.2 q hq) (W.widen (k := 600086) (n := 7301442) hk hn (lw_ret hx hb hr hlocks dL_law_139)))
  have hl := lv_entry ([.ref b]) (n := 6) (Nat.le_of_ble_eq_true rfl)
  rw [lg_entry_eq]
  generalize (lg_sl ([.ref b]) ++ List.replicate (6 - (lg_sl ([.ref b])).length) Slot.unset).toArray = ls at hl ⊢
  have hl : lv_has ls 6 [(0, .ref b)] := hl
  have hgo : J (p, l, e, room_1, s, m, #[Value.ref b], below, meth, c, (fun q : Nat => s.heap.size ≤ q), s.heap, lw_Z below #[Value.ref b] s) (D, C, adK, adV) [] 0 0 [(0, .ref b)] [] 0 := J_lvq (by show _ = [(0, Value.ref (adK 14))]; rw [eb]) hgo
  exact hgo s.heap [] ls (fun k q h => by simp at h) ⟨fun i j p q h => by simp at h, fun k q h => by simp at h⟩ va_S.rf (by show lv_has ls c.maxLocals _; rw [hml]; exact hl)

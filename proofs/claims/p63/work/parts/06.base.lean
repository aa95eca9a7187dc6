/-! THE WALKING JUDGEMENT J: the machine at a pc, over data alone (the world's cells, the locals that matter, the stack), for any heap that holds them. -/
/-- what is fixed through a run: the classes' numbers and slots, the array classes' numbers, the addresses of the String constants and of their byte arrays -/
abbrev gT : Type := va_G × (Nat → ClassId) × (Nat → Nat) × (Nat → Nat)
abbrev gc (G : gT) : Nat → ClassId := G.2.1
/-- the array classes of the world: int, byte, boolean, State, int[] -/
abbrev tyl (G : gT) : List (ClassId × FieldType) := [(gc G 0, .int), (gc G 1, .byte), (gc G 2, .boolean), (gc G 3, .object "AlmanacOffice$State"), (gc G 4, .array .int)]
/-- the String constants by their places: exact strings over bytes; one constant of two classes is one object -/
def vS (adK adV : Nat → Nat) (A : Nat → Prop) (U : State) (H : Heap) : Prop :=
  ∀ i : Nat, i < 14 → va_O "java/lang/String" (adK i) A U H ∧ va_OF "java/lang/String" "coder" "B" (.int 0) (adK i) A U H ∧ va_OF "java/lang/String" "value" "[B" (.ref (adV i)) (adK i) A U H ∧ va_T .byte (adV i) (SKn.getD i 0) (fun j => .int ((SKb.getD i []).getD j 0)) A U H
theorem vS.moved {adK adV : Nat → Nat} {A : Nat → Prop} {u U : State} {H : Heap} (hvm : u.vm.Alike U.vm) (h : vS adK adV A u H) : vS adK adV A U H :=
  fun i hi => ⟨va_O.moved hvm (h i hi).1, va_OF.moved hvm (h i hi).2.1, va_OF.moved hvm (h i hi).2.2.1, va_T.moved hvm (h i hi).2.2.2⟩
theorem vS.kept {adK adV : Nat → Nat} {A : Nat → Prop} {U : State} {H H1 : Heap} (h : vS adK adV A U H) (hq : ∀ a : Nat, a < H.size → ¬ A a → H1[a]? = H[a]?) : vS adK adV A U H1 :=
  fun i hi => ⟨(h i hi).1.kept hq, (h i hi).2.1.kept hq, (h i hi).2.2.1.kept hq, (h i hi).2.2.2.kept hq⟩
theorem vS.narrow {adK adV : Nat → Nat} {A B : Nat → Prop} {U : State} {H : Heap} (h : vS adK adV A U H) (hAB : ∀ q, B q → A q) : vS adK adV B U H :=
  fun i hi => ⟨(h i hi).1.narrow hAB, (h i hi).2.1.narrow hAB, (h i hi).2.2.1.narrow hAB, (h i hi).2.2.2.narrow hAB⟩
/-- int[][] has been made; Integer's two tables of digits -/
def aoI (U : State) : Prop := (Cond.arrayOver (.array .int)).before #[] U = true
theorem aoI.moved {u U : State} (hvm : u.vm.Alike U.vm) (h : aoI u) : aoI U := by
  obtain ⟨comp, c, k, h1, h2, h3, h4, h5⟩ := arrayOverA_spec h
  obtain ⟨k', hk', he⟩ := hvm.2.2 _ _ h3
  have hi : (U.vm.classes.findIdx? fun (x : Class) => match x.kind with | .array component _ => component == comp | _ => false) = some c := by
    refine Eq.trans (va_idx_bare U.vm comp).symm ?_
    first | rw [hvm.bare_eq] | rw [← hvm.bare_eq]
    exact (va_idx_bare u.vm comp).trans h2
  have hkind : k'.kind = .array comp (.array .int) := by rw [he]; exact h4
  have f1 : U.vm.findClass (FieldType.array .int).toString = some comp := by rw [hvm.findClass]; exact h1
  have f2 : U.vm.findClass ("[" ++ (FieldType.array .int).toString) = some c := by rw [hvm.findClass]; exact h5
  unfold aoI Cond.before Cond.holds
  simp only [Cond.value]
  rw [f1, Option.bind_some]
  refine (congrArg (fun o : Option Nat => (o.bind (fun c => (U.vm.classes[c]?).map fun (k : Class) => match k.kind with | .array _ ty => decide (ty = FieldType.array .int) && decide (U.vm.findClass ("[" ++ (FieldType.array .int).toString) = some c) | _ => false) == some true)) hi).trans ?_
  simp [hk', hkind, f2]
def dgO (j : Nat) : Int32 := nI (48 + j % 10)
def dgT (j : Nat) : Int32 := nI (48 + j / 10)
/-- a static row of bytes of Integer, outside A -/
def xR (nm : String) (f : Nat → Int32) (A : Nat → Prop) (U : State) (H : Heap) : Prop := ∃ t : Nat, va_Z "java/lang/Integer" nm "[B" (.ref t) A U H ∧ va_T .byte t 100 (fun j => .int (f j)) A U H
theorem xR.moved {nm : String} {f : Nat → Int32} {A : Nat → Prop} {u U : State} {H : Heap} (hvm : u.vm.Alike U.vm) (h : xR nm f A u H) : xR nm f A U H := by
  obtain ⟨t, h1, h2⟩ := h
  exact ⟨t, va_Z.moved hvm h1, va_T.moved hvm h2⟩
theorem xR.kept {nm : String} {f : Nat → Int32} {A : Nat → Prop} {U : State} {H H1 : Heap} (h : xR nm f A U H) (hq : ∀ a : Nat, a < H.size → ¬ A a → H1[a]? = H[a]?) : xR nm f A U H1 := by
  obtain ⟨t, h1, h2⟩ := h
  exact ⟨t, h1.kept hq, h2.kept hq⟩
theorem xR.narrow {nm : String} {f : Nat → Int32} {A B : Nat → Prop} {U : State} {H : Heap} (h : xR nm f A U H) (hAB : ∀ q, B q → A q) : xR nm f B U H := by
  obtain ⟨t, h1, h2⟩ := h
  exact ⟨t, h1.narrow hAB, h2.narrow hAB⟩
/-- the script, told by the numbers behind the String constants' addresses: 14 its address, 15 its length, from 16 on its ints -/
def scX (g : Nat → Nat) (j : Nat) : Int32 := nI (g (16 + j))
def scT (g : Nat → Nat) (A : Nat → Prop) (U : State) (H : Heap) : Prop := va_T .int (g 14) (g 15) (fun j => .int (scX g j)) A U H
/-- AbstractStringBuilder's private methods -/
def PVL : List MethodName := [yJ5_ensureCapacityInternal_d00df, yJ5_newCapacity_0f7a4, yJ5_putStringAt_47b60, yJ5_inflateIfNeededFor_a7421]
theorem pv_moved {u U : State} (hvm : u.vm.Alike U.vm) {y : MethodName} (h : u.PrivateAt y) : U.PrivateAt y := by
  intro mk meth h1 h2
  have q : (u.setVm U.vm).methodNamed? y = some mk := h1
  rw [State.methodNamed?_setVm hvm] at q
  rw [hvm.method?] at h2
  exact h mk meth q h2
def cB (U : State) : Prop := va_Nw (.castable "[B" "java/lang/Cloneable") U
theorem cB.moved {u U : State} (hvm : u.vm.Alike U.vm) (h : cB u) : cB U := va_tabs rfl (rfl : (u.setVm U.vm).vm = U.vm) (by rw [Cond.castable_setVm hvm]; exact h)
/-- what the law of this claim needs besides: State[] and int[][] have been made, the tables of digits, the script, private methods, byte[]'s clone -/
def xF (g : Nat → Nat) (A : Nat → Prop) (U : State) (H : Heap) : Prop := va_AO "AlmanacOffice$State" U ∧ aoI U ∧ xR "DigitOnes" dgO A U H ∧ xR "DigitTens" dgT A U H ∧ scT g A U H ∧ (∀ y ∈ PVL, U.PrivateAt y) ∧ cB U
theorem xF.moved {g : Nat → Nat} {A : Nat → Prop} {u U : State} {H : Heap} (hvm : u.vm.Alike U.vm) (h : xF g A u H) : xF g A U H := ⟨va_AO.moved hvm h.1, h.2.1.moved hvm, h.2.2.1.moved hvm, h.2.2.2.1.moved hvm, va_T.moved hvm h.2.2.2.2.1, fun y hy => pv_moved hvm (h.2.2.2.2.2.1 y hy), h.2.2.2.2.2.2.moved hvm⟩
theorem xF.kept {g : Nat → Nat} {A : Nat → Prop} {U : State} {H H1 : Heap} (h : xF g A U H) (hq : ∀ a : Nat, a < H.size → ¬ A a → H1[a]? = H[a]?) : xF g A U H1 := ⟨h.1, h.2.1, h.2.2.1.kept hq, h.2.2.2.1.kept hq, va_T.kept h.2.2.2.2.1 hq, h.2.2.2.2.2⟩
theorem xF.narrow {g : Nat → Nat} {A B : Nat → Prop} {U : State} {H : Heap} (h : xF g A U H) (hAB : ∀ q, B q → A q) : xF g B U H := ⟨h.1, h.2.1, h.2.2.1.narrow hAB, h.2.2.2.1.narrow hAB, va_T.narrow h.2.2.2.2.1 hAB, h.2.2.2.2.2⟩
/-- what a run may take for granted everywhere: links of nest mates, Throwable's statics, String's and Preconditions', the String constants; none of their cells lies in A -/
def xE (G : gT) (A : Nat → Prop) (U : State) : Prop := (∀ w ∈ NWL, va_Nw w U) ∧ xF G.2.2.1 A U U.heap ∧ vx_Zq Bundle.tN "UNASSIGNED_STACK" Bundle.steD A U U.heap ∧ vx_Zq Bundle.tN "SUPPRESSED_SENTINEL" Bundle.listD A U U.heap ∧
  va_Z "java/lang/String" "COMPACT_STRINGS" "Z" (.int 1) A U U.heap ∧ va_Zq "jdk/internal/util/Preconditions" "SIOOBE_FORMATTER" "Ljava/util/function/BiFunction;" A U U.heap ∧
  (∀ i : Nat, i < 14 → vk_R (SKo.getD i "") (SKi.getD i 0) (SKt.getD i "") (G.2.2.1 i) U) ∧ vS G.2.2.1 G.2.2.2 A U U.heap
theorem nwl_kind : ∀ w ∈ NWL, ∃ a i y h, w = .methodLinkNest a i y h := by
  intro w h
  simp only [NWL, List.mem_cons, List.not_mem_nil, or_false] at h
  rcases h with rfl | rfl | rfl | rfl | rfl | rfl | rfl | rfl | rfl | rfl | rfl | rfl | rfl | rfl | rfl | rfl | rfl | rfl | rfl | rfl | rfl | rfl | rfl | rfl | rfl <;> exact ⟨_, _, _, _, rfl⟩
theorem xE.step {G : gT} {A B : Nat → Prop} {s U : State} (h : xE G A s) (hW : s.WarmedH U.vm) (hq : ∀ a : Nat, a < s.heap.size → ¬ A a → U.heap[a]? = s.heap[a]?) (hAB : ∀ q, B q → A q) : xE G B U := by
  obtain ⟨h1, h2, h3, h4, h5, h6, h7, h8⟩ := h
  refine ⟨fun w hw => ?_, ((xF.moved hW.alike h2).kept hq).narrow hAB, ((vx_Zq.moved hW.alike h3).kept hq).narrow hAB, ((vx_Zq.moved hW.alike h4).kept hq).narrow hAB, ((va_Z.moved hW.alike h5).kept hq).narrow hAB, ((va_Zq.moved hW.alike h6).kept hq).narrow hAB, fun i hi => (h7 i hi).warm hW, ((vS.moved hW.alike h8).kept hq).narrow hAB⟩
  obtain ⟨a, i, y, hh, rfl⟩ := nwl_kind w hw
  exact va_Nw.warmM hW (h1 _ hw)
theorem xE.same {G : gT} {A : Nat → Prop} {s U : State} (h : xE G A s) (hv : s.vm = U.vm) (hh : U.heap = s.heap) : xE G A U := by
  obtain ⟨h1, h2, h3, h4, h5, h6, h7, h8⟩ := h
  have ha : s.vm.Alike U.vm := by rw [hv]; exact Vm.Alike.refl _
  refine ⟨fun w hw => ?_, by rw [hh]; exact xF.moved ha h2, by rw [hh]; exact vx_Zq.moved ha h3, by rw [hh]; exact vx_Zq.moved ha h4, by rw [hh]; exact va_Z.moved ha h5, by rw [hh]; exact va_Zq.moved ha h6, fun i hi => (h7 i hi).same hv.symm, by rw [hh]; exact vS.moved ha h8⟩
  obtain ⟨a, i, y, hh, rfl⟩ := nwl_kind w hw
  exact va_Nw.same rfl hv (h1 _ hw)
theorem xE.narrow {G : gT} {A B : Nat → Prop} {U : State} (h : xE G A U) (hAB : ∀ q, B q → A q) : xE G B U := by
  obtain ⟨h1, h2, h3, h4, h5, h6, h7, h8⟩ := h
  exact ⟨h1, h2.narrow hAB, h3.narrow hAB, h4.narrow hAB, h5.narrow hAB, h6.narrow hAB, h7, h8.narrow hAB⟩
def gP (G : gT) (ws : va_W) (sz : Nat) (U : State) : Prop := U.heap.size = sz ∧ va_P G.1 vwCl ws U.heap ∧ va_K G.1 vwCl (tyl G) U ∧ va_D (fun _ => True) ws ∧ xE G (va_A ws sz) U
def gB (G : gT) (ws : va_W) (A : Nat → Prop) (t : State) : Prop := va_P G.1 vwCl ws t.heap ∧ va_K G.1 vwCl (tyl G) t ∧ va_D A ws
theorem gP_blind (G : gT) (av : List Value) (ws : va_W) (sz : Nat) : FrameBlind (va_Pc av (gP G ws sz)) := fun a U g mk h => ⟨h.1, h.2.1, h.2.2.1, va_K.moved (u := U) (U := U.calling g mk a) (Vm.Alike.refl U.vm) h.2.2.2.1, h.2.2.2.2.1, h.2.2.2.2.2.same rfl rfl⟩
abbrev JX : Type := Program × Launch × Env × Room × State × MethodId × Array Value × List Frame × Method × Code × (Nat → Prop) × Heap × (State → Prop)
abbrev jp (x : JX) : Program := x.1
abbrev jl (x : JX) : Launch := x.2.1
abbrev je (x : JX) : Env := x.2.2.1
abbrev jR (x : JX) : Room := x.2.2.2.1
abbrev js (x : JX) : State := x.2.2.2.2.1
abbrev jm (x : JX) : MethodId := x.2.2.2.2.2.1
abbrev ja (x : JX) : Array Value := x.2.2.2.2.2.2.1
abbrev jb (x : JX) : List Frame := x.2.2.2.2.2.2.2.1
abbrev jt (x : JX) : Method := x.2.2.2.2.2.2.2.2.1
abbrev jc (x : JX) : Code := x.2.2.2.2.2.2.2.2.2.1
abbrev jA (x : JX) : Nat → Prop := x.2.2.2.2.2.2.2.2.2.2.1
abbrev jH (x : JX) : Heap := x.2.2.2.2.2.2.2.2.2.2.2.1
abbrev jQ (x : JX) : State → Prop := x.2.2.2.2.2.2.2.2.2.2.2.2
def J (x : JX) (G : gT) (ws : va_W) (k n : Nat) (lv : List (Nat × Value)) (st : List Value) (pc : Nat) : Prop :=
  ∀ (H : Heap) (locs : List Loc) (ls : Array Slot), va_P G.1 vwCl ws H → va_D (jA x) ws → va_S (jA x) (jH x) H locs → lv_has ls (jc x).maxLocals lv →
    W (jp x) (jl x) (je x) (jR x) (js x) (jm x) (ja x) (jb x) (jt x) (jc x) H locs k n (jQ x) (F0 (jm x) pc ls st)
def JC (x : JX) (G : gT) (R : Room) (cc : ByteArray) (w0 : Cond) (own : String) (nL : Nat) : Prop :=
  (jp x).tables.exec = Jvm.exec ∧ (jc x).code = cc ∧ (jc x).maxLocals = nL ∧ (js x).vm.findClass own = some (jm x).cls ∧ (∀ w ∈ w0 :: GW, w.before (ja x) (js x) = true) ∧
  va_K G.1 vwCl (tyl G) (js x) ∧ (∀ q : Nat, (jH x).size ≤ q → jA x q) ∧ jR x = R ∧ jH x = (js x).heap ∧ xE G (jA x) (js x)
section JJ
variable {x : JX} {G : gT} {R : Room} {cc : ByteArray} {w0 : Cond} {own : String} {nL : Nat} {ws : va_W} {k n : Nat} {lv : List (Nat × Value)} {st : List Value} {pc : Nat}
theorem J_aload_n (hC : JC x G R cc w0 own nL) {f : Fin 4} {i a : Nat} (hd : decode cc pc = .ok (.aload_n f, 1)) (j : Nat) (hi : (f : Nat) = i) (hl : lv[j]? = some (i, .ref a)) (kk : J x G ws k n lv (.ref a :: st) (pc + 1)) : J x G ws k n lv st pc :=
  fun H locs ls hP hD hS hL => lv_aload_n hC.1 hC.2.1 hd hi (lv_at hL j hl) (kk H locs ls hP hD hS hL)
theorem J_aload (hC : JC x G R cc w0 own nL) {i a : Nat} (hd : decode cc pc = .ok (.aload i, 2)) (j : Nat) (hl : lv[j]? = some (i, .ref a)) (kk : J x G ws k n lv (.ref a :: st) (pc + 2)) : J x G ws k n lv st pc :=
  fun H locs ls hP hD hS hL => lv_aload hC.1 hC.2.1 hd (lv_at hL j hl) (kk H locs ls hP hD hS hL)
theorem J_iload_n (hC : JC x G R cc w0 own nL) {f : Fin 4} {i : Nat} {v : Int32} (hd : decode cc pc = .ok (.iload_n f, 1)) (j : Nat) (hi : (f : Nat) = i) (hl : lv[j]? = some (i, .int v)) (kk : J x G ws k n lv (.int v :: st) (pc + 1)) : J x G ws k n lv st pc :=
  fun H locs ls hP hD hS hL => lv_iload_n hC.1 hC.2.1 hd hi (lv_at hL j hl) (kk H locs ls hP hD hS hL)
theorem J_iload (hC : JC x G R cc w0 own nL) {i : Nat} {v : Int32} (hd : decode cc pc = .ok (.iload i, 2)) (j : Nat) (hl : lv[j]? = some (i, .int v)) (kk : J x G ws k n lv (.int v :: st) (pc + 2)) : J x G ws k n lv st pc :=
  fun H locs ls hP hD hS hL => lv_iload hC.1 hC.2.1 hd (lv_at hL j hl) (kk H locs ls hP hD hS hL)
theorem J_dload (hC : JC x G R cc w0 own nL) {i : Nat} {v : UInt64} (hd : decode cc pc = .ok (.dload i, 2)) (j : Nat) (hl : lv[j]? = some (i, .double v)) (kk : J x G ws k n lv (.double v :: st) (pc + 2)) : J x G ws k n lv st pc :=
  fun H locs ls hP hD hS hL => lv_dload hC.1 hC.2.1 hd (lv_at hL j hl) (kk H locs ls hP hD hS hL)
theorem J_iconst (hC : JC x G R cc w0 own nL) {c : Int} {v : Int32} (hd : decode cc pc = .ok (.iconst c, 1)) (hv : Int32.ofInt c = v) (kk : J x G ws k n lv (.int v :: st) (pc + 1)) : J x G ws k n lv st pc :=
  fun H locs ls hP hD hS hL => lv_iconst hC.1 hC.2.1 hd hv (kk H locs ls hP hD hS hL)
theorem J_bipush (hC : JC x G R cc w0 own nL) {c : Int} {v : Int32} (hd : decode cc pc = .ok (.bipush c, 2)) (hv : (Int8.ofInt c).toInt32 = v) (kk : J x G ws k n lv (.int v :: st) (pc + 2)) : J x G ws k n lv st pc :=
  fun H locs ls hP hD hS hL => lv_bipush hC.1 hC.2.1 hd hv (kk H locs ls hP hD hS hL)
theorem J_sipush (hC : JC x G R cc w0 own nL) {c : Int} {v : Int32} (hd : decode cc pc = .ok (.sipush c, 3)) (hv : (Int16.ofInt c).toInt32 = v) (kk : J x G ws k n lv (.int v :: st) (pc + 3)) : J x G ws k n lv st pc :=
  fun H locs ls hP hD hS hL => lv_sipush hC.1 hC.2.1 hd hv (kk H locs ls hP hD hS hL)
theorem J_ldc (hC : JC x G R cc w0 own nL) {i : Nat} {v : Int32} (hd : decode cc pc = .ok (.ldc i, 2)) (hw : Cond.constant own i v ∈ GW) (kk : J x G ws k n lv (.int v :: st) (pc + 2)) : J x G ws k n lv st pc :=
  fun H locs ls hP hD hS hL => lv_ldc hC.1 hC.2.1 hC.2.2.2.1 (hC.2.2.2.2.1 _ (List.mem_cons_of_mem _ hw)) hd (kk H locs ls hP hD hS hL)
theorem J_istore_n (hC : JC x G R cc w0 own nL) {f : Fin 4} {i : Nat} {v : Int32} (lv' : List (Nat × Value)) (hd : decode cc pc = .ok (.istore_n f, 1)) (hi : (f : Nat) = i) (hn : i < nL) (hl : (i, Value.int v) :: lv.filter (fun q => !(q.1 == i) && !(q.1 + 1 == i && q.2.category == 2)) = lv') (kk : J x G ws k n lv' st (pc + 1)) : J x G ws k n lv (.int v :: st) pc :=
  fun H locs ls hP hD hS hL => lv_istore_n hC.1 hC.2.1 hd hi hL (by rw [hC.2.2.1]; exact hn) hl (fun ls' hL' => kk H locs ls' hP hD hS hL')
theorem J_istore (hC : JC x G R cc w0 own nL) {i : Nat} {v : Int32} (lv' : List (Nat × Value)) (hd : decode cc pc = .ok (.istore i, 2)) (hn : i < nL) (hl : (i, Value.int v) :: lv.filter (fun q => !(q.1 == i) && !(q.1 + 1 == i && q.2.category == 2)) = lv') (kk : J x G ws k n lv' st (pc + 2)) : J x G ws k n lv (.int v :: st) pc :=
  fun H locs ls hP hD hS hL => lv_istore hC.1 hC.2.1 hd hL (by rw [hC.2.2.1]; exact hn) hl (fun ls' hL' => kk H locs ls' hP hD hS hL')
theorem J_astore_n (hC : JC x G R cc w0 own nL) {f : Fin 4} {i a : Nat} (lv' : List (Nat × Value)) (hd : decode cc pc = .ok (.astore_n f, 1)) (hi : (f : Nat) = i) (hn : i < nL) (hl : (i, Value.ref a) :: lv.filter (fun q => !(q.1 == i) && !(q.1 + 1 == i && q.2.category == 2)) = lv') (kk : J x G ws k n lv' st (pc + 1)) : J x G ws k n lv (.ref a :: st) pc :=
  fun H locs ls hP hD hS hL => lv_astore_n hC.1 hC.2.1 hd hi hL (by rw [hC.2.2.1]; exact hn) hl (fun ls' hL' => kk H locs ls' hP hD hS hL')
theorem J_astore (hC : JC x G R cc w0 own nL) {i a : Nat} (lv' : List (Nat × Value)) (hd : decode cc pc = .ok (.astore i, 2)) (hn : i < nL) (hl : (i, Value.ref a) :: lv.filter (fun q => !(q.1 == i) && !(q.1 + 1 == i && q.2.category == 2)) = lv') (kk : J x G ws k n lv' st (pc + 2)) : J x G ws k n lv (.ref a :: st) pc :=
  fun H locs ls hP hD hS hL => lv_astore hC.1 hC.2.1 hd hL (by rw [hC.2.2.1]; exact hn) hl (fun ls' hL' => kk H locs ls' hP hD hS hL')
theorem J_dstore (hC : JC x G R cc w0 own nL) {i : Nat} {v : UInt64} (lv' : List (Nat × Value)) (hd : decode cc pc = .ok (.dstore i, 2)) (hn : i + 1 < nL) (hl : (i, Value.double v) :: lv.filter (fun q => !(q.1 == i) && (!(q.1 == i + 1) && !(q.1 + 1 == i && q.2.category == 2))) = lv') (kk : J x G ws k n lv' st (pc + 2)) : J x G ws k n lv (.double v :: st) pc :=
  fun H locs ls hP hD hS hL => lv_dstore hC.1 hC.2.1 hd hL (by rw [hC.2.2.1]; exact hn) hl (fun ls' hL' => kk H locs ls' hP hD hS hL')
theorem J_iinc (hC : JC x G R cc w0 own nL) {i : Nat} {d : Int} {v w : Int32} (lv' : List (Nat × Value)) (hd : decode cc pc = .ok (.iinc i d, 3)) (j : Nat) (hj : lv[j]? = some (i, .int v)) (hv : v + Int32.ofInt d = w) (hn : i < nL) (hl : (i, Value.int w) :: lv.filter (fun q => !(q.1 == i) && !(q.1 + 1 == i && q.2.category == 2)) = lv') (kk : J x G ws k n lv' st (pc + 3)) : J x G ws k n lv st pc :=
  fun H locs ls hP hD hS hL => lv_iinc hC.1 hC.2.1 hd hL hj hv (by rw [hC.2.2.1]; exact hn) hl (fun ls' hL' => kk H locs ls' hP hD hS hL')
theorem J_dup (hC : JC x G R cc w0 own nL) {v : Value} (hd : decode cc pc = .ok (.dup, 1)) (hv : v.category = 1) (kk : J x G ws k n lv (v :: v :: st) (pc + 1)) : J x G ws k n lv (v :: st) pc :=
  fun H locs ls hP hD hS hL => lv_dup hC.1 hC.2.1 hd hv (kk H locs ls hP hD hS hL)
theorem J_dup2 (hC : JC x G R cc w0 own nL) {v w : Value} (hd : decode cc pc = .ok (.dup2, 1)) (hv : v.category = 1) (hw : w.category = 1) (kk : J x G ws k n lv (v :: w :: v :: w :: st) (pc + 1)) : J x G ws k n lv (v :: w :: st) pc :=
  fun H locs ls hP hD hS hL => lv_dup2_11 hC.1 hC.2.1 hd (by assumption) (by assumption) (kk H locs ls hP hD hS hL)
theorem J_pop (hC : JC x G R cc w0 own nL) {v : Value} (hd : decode cc pc = .ok (.pop, 1)) (hv : v.category = 1) (kk : J x G ws k n lv st (pc + 1)) : J x G ws k n lv (v :: st) pc :=
  fun H locs ls hP hD hS hL => lv_pop hC.1 hC.2.1 hd hv (kk H locs ls hP hD hS hL)
theorem J_iadd (hC : JC x G R cc w0 own nL) {a b v : Int32} (hd : decode cc pc = .ok (.iadd, 1)) (hv : a + b = v) (kk : J x G ws k n lv (.int v :: st) (pc + 1)) : J x G ws k n lv (.int b :: .int a :: st) pc := by
  subst hv
  exact fun H locs ls hP hD hS hL => lv_iadd hC.1 hC.2.1 hd (kk H locs ls hP hD hS hL)
theorem J_isub (hC : JC x G R cc w0 own nL) {a b v : Int32} (hd : decode cc pc = .ok (.isub, 1)) (hv : a - b = v) (kk : J x G ws k n lv (.int v :: st) (pc + 1)) : J x G ws k n lv (.int b :: .int a :: st) pc := by
  subst hv
  exact fun H locs ls hP hD hS hL => lv_isub hC.1 hC.2.1 hd (kk H locs ls hP hD hS hL)
theorem J_imul (hC : JC x G R cc w0 own nL) {a b v : Int32} (hd : decode cc pc = .ok (.imul, 1)) (hv : a * b = v) (kk : J x G ws k n lv (.int v :: st) (pc + 1)) : J x G ws k n lv (.int b :: .int a :: st) pc := by
  subst hv
  exact fun H locs ls hP hD hS hL => lv_imul hC.1 hC.2.1 hd (kk H locs ls hP hD hS hL)
theorem J_idiv (hC : JC x G R cc w0 own nL) {a b v : Int32} (hd : decode cc pc = .ok (.idiv, 1)) (hne : ¬ b = 0) (hv : a / b = v) (kk : J x G ws k n lv (.int v :: st) (pc + 1)) : J x G ws k n lv (.int b :: .int a :: st) pc := by
  subst hv
  exact fun H locs ls hP hD hS hL => lv_idiv hC.1 hC.2.1 hd hne (kk H locs ls hP hD hS hL)
theorem J_irem (hC : JC x G R cc w0 own nL) {a b v : Int32} (hd : decode cc pc = .ok (.irem, 1)) (hne : ¬ b = 0) (hv : a - a / b * b = v) (kk : J x G ws k n lv (.int v :: st) (pc + 1)) : J x G ws k n lv (.int b :: .int a :: st) pc := by
  subst hv
  exact fun H locs ls hP hD hS hL => lv_irem hC.1 hC.2.1 hd hne (kk H locs ls hP hD hS hL)
theorem J_iand (hC : JC x G R cc w0 own nL) {a b v : Int32} (hd : decode cc pc = .ok (.iand, 1)) (hv : a &&& b = v) (kk : J x G ws k n lv (.int v :: st) (pc + 1)) : J x G ws k n lv (.int b :: .int a :: st) pc := by
  subst hv
  exact fun H locs ls hP hD hS hL => lv_iand hC.1 hC.2.1 hd (kk H locs ls hP hD hS hL)
theorem J_ior (hC : JC x G R cc w0 own nL) {a b v : Int32} (hd : decode cc pc = .ok (.ior, 1)) (hv : a ||| b = v) (kk : J x G ws k n lv (.int v :: st) (pc + 1)) : J x G ws k n lv (.int b :: .int a :: st) pc := by
  subst hv
  exact fun H locs ls hP hD hS hL => lv_ior hC.1 hC.2.1 hd (kk H locs ls hP hD hS hL)
theorem J_ishl (hC : JC x G R cc w0 own nL) {a b v : Int32} (hd : decode cc pc = .ok (.ishl, 1)) (hv : a <<< (b &&& 31) = v) (kk : J x G ws k n lv (.int v :: st) (pc + 1)) : J x G ws k n lv (.int b :: .int a :: st) pc := by
  subst hv
  exact fun H locs ls hP hD hS hL => lv_ishl hC.1 hC.2.1 hd (kk H locs ls hP hD hS hL)
theorem J_ishr (hC : JC x G R cc w0 own nL) {a b v : Int32} (hd : decode cc pc = .ok (.ishr, 1)) (hv : a >>> (b &&& 31) = v) (kk : J x G ws k n lv (.int v :: st) (pc + 1)) : J x G ws k n lv (.int b :: .int a :: st) pc := by
  subst hv
  exact fun H locs ls hP hD hS hL => lv_ishr hC.1 hC.2.1 hd (kk H locs ls hP hD hS hL)
theorem J_iushr (hC : JC x G R cc w0 own nL) {a b v : Int32} (hd : decode cc pc = .ok (.iushr, 1)) (hv : (a.toUInt32 >>> (b.toUInt32 &&& Int32.toUInt32 31)).toInt32 = v) (kk : J x G ws k n lv (.int v :: st) (pc + 1)) : J x G ws k n lv (.int b :: .int a :: st) pc :=
  fun H locs ls hP hD hS hL => lv_iushr hC.1 hC.2.1 hd hv (kk H locs ls hP hD hS hL)
theorem J_i2b (hC : JC x G R cc w0 own nL) {a v : Int32} (hd : decode cc pc = .ok (.i2b, 1)) (hv : a.toInt8.toInt32 = v) (kk : J x G ws k n lv (.int v :: st) (pc + 1)) : J x G ws k n lv (.int a :: st) pc :=
  fun H locs ls hP hD hS hL => lv_i2b hC.1 hC.2.1 hd hv (kk H locs ls hP hD hS hL)
theorem J_i2l (hC : JC x G R cc w0 own nL) {a : Int32} {v : Int64} (hd : decode cc pc = .ok (.i2l, 1)) (hv : a.toInt64 = v) (kk : J x G ws k n lv (.long v :: st) (pc + 1)) : J x G ws k n lv (.int a :: st) pc :=
  fun H locs ls hP hD hS hL => lv_i2l hC.1 hC.2.1 hd hv (kk H locs ls hP hD hS hL)
theorem J_lconst (hC : JC x G R cc w0 own nL) {c : Fin 2} {v : Int64} (hd : decode cc pc = .ok (.lconst c, 1)) (hv : Int64.ofNat (c : Nat) = v) (kk : J x G ws k n lv (.long v :: st) (pc + 1)) : J x G ws k n lv st pc :=
  fun H locs ls hP hD hS hL => lv_lconst hC.1 hC.2.1 hd hv (kk H locs ls hP hD hS hL)
theorem J_goto (hC : JC x G R cc w0 own nL) {off : Int} {tgt : Nat} (hd : decode cc pc = .ok (.goto off, 3)) (ht : (pc : Int) + off = (tgt : Int)) (kk : J x G ws k n lv st tgt) : J x G ws k n lv st pc :=
  fun H locs ls hP hD hS hL => lv_goto hC.1 hC.2.1 hd ht (kk H locs ls hP hD hS hL)
theorem J_if_eq (hC : JC x G R cc w0 own nL) {a : Int32} {off : Int} {tgt : Nat} (hd : decode cc pc = .ok (.ifCond .eq off, 3)) (ht : (pc : Int) + off = (tgt : Int)) (kt : a = 0 → J x G ws k n lv st tgt) (kf : ¬ a = 0 → J x G ws k n lv st (pc + 3)) : J x G ws k n lv (.int a :: st) pc :=
  fun H locs ls hP hD hS hL => lv_if_eq hC.1 hC.2.1 hd ht (fun c => kt c H locs ls hP hD hS hL) (fun c => kf c H locs ls hP hD hS hL)
theorem J_if_ne (hC : JC x G R cc w0 own nL) {a : Int32} {off : Int} {tgt : Nat} (hd : decode cc pc = .ok (.ifCond .ne off, 3)) (ht : (pc : Int) + off = (tgt : Int)) (kt : ¬ a = 0 → J x G ws k n lv st tgt) (kf : a = 0 → J x G ws k n lv st (pc + 3)) : J x G ws k n lv (.int a :: st) pc :=
  fun H locs ls hP hD hS hL => lv_if_ne hC.1 hC.2.1 hd ht (fun c => kt c H locs ls hP hD hS hL) (fun c => kf c H locs ls hP hD hS hL)
theorem J_if_lt (hC : JC x G R cc w0 own nL) {a : Int32} {off : Int} {tgt : Nat} (hd : decode cc pc = .ok (.ifCond .lt off, 3)) (ht : (pc : Int) + off = (tgt : Int)) (kt : a < 0 → J x G ws k n lv st tgt) (kf : ¬ a < 0 → J x G ws k n lv st (pc + 3)) : J x G ws k n lv (.int a :: st) pc :=
  fun H locs ls hP hD hS hL => lv_if_lt hC.1 hC.2.1 hd ht (fun c => kt c H locs ls hP hD hS hL) (fun c => kf c H locs ls hP hD hS hL)
theorem J_if_ge (hC : JC x G R cc w0 own nL) {a : Int32} {off : Int} {tgt : Nat} (hd : decode cc pc = .ok (.ifCond .ge off, 3)) (ht : (pc : Int) + off = (tgt : Int)) (kt : 0 ≤ a → J x G ws k n lv st tgt) (kf : ¬ 0 ≤ a → J x G ws k n lv st (pc + 3)) : J x G ws k n lv (.int a :: st) pc :=
  fun H locs ls hP hD hS hL => lv_if_ge hC.1 hC.2.1 hd ht (fun c => kt c H locs ls hP hD hS hL) (fun c => kf c H locs ls hP hD hS hL)
theorem J_if_gt (hC : JC x G R cc w0 own nL) {a : Int32} {off : Int} {tgt : Nat} (hd : decode cc pc = .ok (.ifCond .gt off, 3)) (ht : (pc : Int) + off = (tgt : Int)) (kt : 0 < a → J x G ws k n lv st tgt) (kf : ¬ 0 < a → J x G ws k n lv st (pc + 3)) : J x G ws k n lv (.int a :: st) pc :=
  fun H locs ls hP hD hS hL => lv_if_gt hC.1 hC.2.1 hd ht (fun c => kt c H locs ls hP hD hS hL) (fun c => kf c H locs ls hP hD hS hL)
theorem J_if_le (hC : JC x G R cc w0 own nL) {a : Int32} {off : Int} {tgt : Nat} (hd : decode cc pc = .ok (.ifCond .le off, 3)) (ht : (pc : Int) + off = (tgt : Int)) (kt : a ≤ 0 → J x G ws k n lv st tgt) (kf : ¬ a ≤ 0 → J x G ws k n lv st (pc + 3)) : J x G ws k n lv (.int a :: st) pc :=
  fun H locs ls hP hD hS hL => lv_if_le hC.1 hC.2.1 hd ht (fun c => kt c H locs ls hP hD hS hL) (fun c => kf c H locs ls hP hD hS hL)
theorem J_ic_eq (hC : JC x G R cc w0 own nL) {a b : Int32} {off : Int} {tgt : Nat} (hd : decode cc pc = .ok (.if_icmp .eq off, 3)) (ht : (pc : Int) + off = (tgt : Int)) (kt : a = b → J x G ws k n lv st tgt) (kf : ¬ a = b → J x G ws k n lv st (pc + 3)) : J x G ws k n lv (.int b :: .int a :: st) pc :=
  fun H locs ls hP hD hS hL => lv_icmp_eq hC.1 hC.2.1 hd ht (fun c => kt c H locs ls hP hD hS hL) (fun c => kf c H locs ls hP hD hS hL)
theorem J_ic_ne (hC : JC x G R cc w0 own nL) {a b : Int32} {off : Int} {tgt : Nat} (hd : decode cc pc = .ok (.if_icmp .ne off, 3)) (ht : (pc : Int) + off = (tgt : Int)) (kt : ¬ a = b → J x G ws k n lv st tgt) (kf : a = b → J x G ws k n lv st (pc + 3)) : J x G ws k n lv (.int b :: .int a :: st) pc :=
  fun H locs ls hP hD hS hL => lv_icmp_ne hC.1 hC.2.1 hd ht (fun c => kt c H locs ls hP hD hS hL) (fun c => kf c H locs ls hP hD hS hL)
theorem J_ic_lt (hC : JC x G R cc w0 own nL) {a b : Int32} {off : Int} {tgt : Nat} (hd : decode cc pc = .ok (.if_icmp .lt off, 3)) (ht : (pc : Int) + off = (tgt : Int)) (kt : a < b → J x G ws k n lv st tgt) (kf : ¬ a < b → J x G ws k n lv st (pc + 3)) : J x G ws k n lv (.int b :: .int a :: st) pc :=
  fun H locs ls hP hD hS hL => lv_icmp_lt hC.1 hC.2.1 hd ht (fun c => kt c H locs ls hP hD hS hL) (fun c => kf c H locs ls hP hD hS hL)
theorem J_ic_ge (hC : JC x G R cc w0 own nL) {a b : Int32} {off : Int} {tgt : Nat} (hd : decode cc pc = .ok (.if_icmp .ge off, 3)) (ht : (pc : Int) + off = (tgt : Int)) (kt : b ≤ a → J x G ws k n lv st tgt) (kf : ¬ b ≤ a → J x G ws k n lv st (pc + 3)) : J x G ws k n lv (.int b :: .int a :: st) pc :=
  fun H locs ls hP hD hS hL => lv_icmp_ge hC.1 hC.2.1 hd ht (fun c => kt c H locs ls hP hD hS hL) (fun c => kf c H locs ls hP hD hS hL)
theorem J_ic_gt (hC : JC x G R cc w0 own nL) {a b : Int32} {off : Int} {tgt : Nat} (hd : decode cc pc = .ok (.if_icmp .gt off, 3)) (ht : (pc : Int) + off = (tgt : Int)) (kt : b < a → J x G ws k n lv st tgt) (kf : ¬ b < a → J x G ws k n lv st (pc + 3)) : J x G ws k n lv (.int b :: .int a :: st) pc :=
  fun H locs ls hP hD hS hL => lv_icmp_gt hC.1 hC.2.1 hd ht (fun c => kt c H locs ls hP hD hS hL) (fun c => kf c H locs ls hP hD hS hL)
theorem J_ic_le (hC : JC x G R cc w0 own nL) {a b : Int32} {off : Int} {tgt : Nat} (hd : decode cc pc = .ok (.if_icmp .le off, 3)) (ht : (pc : Int) + off = (tgt : Int)) (kt : a ≤ b → J x G ws k n lv st tgt) (kf : ¬ a ≤ b → J x G ws k n lv st (pc + 3)) : J x G ws k n lv (.int b :: .int a :: st) pc :=
  fun H locs ls hP hD hS hL => lv_icmp_le hC.1 hC.2.1 hd ht (fun c => kt c H locs ls hP hD hS hL) (fun c => kf c H locs ls hP hD hS hL)
-- comparisons of known numbers
theorem nI_lt' {a b : Nat} (ha : a < 2 ^ 31) (hb : b < 2 ^ 31) : nI a < nI b ↔ a < b := nI_ltI ha hb
theorem J_ic_ltN (hC : JC x G R cc w0 own nL) {a b : Nat} {off : Int} {tgt : Nat} (hd : decode cc pc = .ok (.if_icmp .lt off, 3)) (ht : (pc : Int) + off = (tgt : Int)) (ha : a < 2 ^ 31) (hb : b < 2 ^ 31) (kt : a < b → J x G ws k n lv st tgt) (kf : b ≤ a → J x G ws k n lv st (pc + 3)) : J x G ws k n lv (.int (nI b) :: .int (nI a) :: st) pc :=
  J_ic_lt hC hd ht (fun c => kt ((nI_ltI ha hb).mp c)) (fun c => kf (Nat.le_of_not_lt fun h => c ((nI_ltI ha hb).mpr h)))
theorem J_ic_geN (hC : JC x G R cc w0 own nL) {a b : Nat} {off : Int} {tgt : Nat} (hd : decode cc pc = .ok (.if_icmp .ge off, 3)) (ht : (pc : Int) + off = (tgt : Int)) (ha : a < 2 ^ 31) (hb : b < 2 ^ 31) (kt : b ≤ a → J x G ws k n lv st tgt) (kf : a < b → J x G ws k n lv st (pc + 3)) : J x G ws k n lv (.int (nI b) :: .int (nI a) :: st) pc :=
  J_ic_ge hC hd ht (fun c => kt ((nI_leI hb ha).mp c)) (fun c => kf (Nat.lt_of_not_le fun h => c ((nI_leI hb ha).mpr h)))
theorem J_ic_gtN (hC : JC x G R cc w0 own nL) {a b : Nat} {off : Int} {tgt : Nat} (hd : decode cc pc = .ok (.if_icmp .gt off, 3)) (ht : (pc : Int) + off = (tgt : Int)) (ha : a < 2 ^ 31) (hb : b < 2 ^ 31) (kt : b < a → J x G ws k n lv st tgt) (kf : a ≤ b → J x G ws k n lv st (pc + 3)) : J x G ws k n lv (.int (nI b) :: .int (nI a) :: st) pc :=
  J_ic_gt hC hd ht (fun c => kt ((nI_ltI hb ha).mp c)) (fun c => kf (Nat.le_of_not_lt fun h => c ((nI_ltI hb ha).mpr h)))
theorem J_ic_leN (hC : JC x G R cc w0 own nL) {a b : Nat} {off : Int} {tgt : Nat} (hd : decode cc pc = .ok (.if_icmp .le off, 3)) (ht : (pc : Int) + off = (tgt : Int)) (ha : a < 2 ^ 31) (hb : b < 2 ^ 31) (kt : a ≤ b → J x G ws k n lv st tgt) (kf : b < a → J x G ws k n lv st (pc + 3)) : J x G ws k n lv (.int (nI b) :: .int (nI a) :: st) pc :=
  J_ic_le hC hd ht (fun c => kt ((nI_leI ha hb).mp c)) (fun c => kf (Nat.lt_of_not_le fun h => c ((nI_leI ha hb).mpr h)))
theorem J_ic_eqN (hC : JC x G R cc w0 own nL) {a b : Nat} {off : Int} {tgt : Nat} (hd : decode cc pc = .ok (.if_icmp .eq off, 3)) (ht : (pc : Int) + off = (tgt : Int)) (ha : a < 2 ^ 31) (hb : b < 2 ^ 31) (kt : a = b → J x G ws k n lv st tgt) (kf : ¬ a = b → J x G ws k n lv st (pc + 3)) : J x G ws k n lv (.int (nI b) :: .int (nI a) :: st) pc :=
  J_ic_eq hC hd ht (fun c => kt ((nI_eq ha hb).mp c)) (fun c => kf (fun h => c ((nI_eq ha hb).mpr h)))
theorem J_ic_neN (hC : JC x G R cc w0 own nL) {a b : Nat} {off : Int} {tgt : Nat} (hd : decode cc pc = .ok (.if_icmp .ne off, 3)) (ht : (pc : Int) + off = (tgt : Int)) (ha : a < 2 ^ 31) (hb : b < 2 ^ 31) (kt : ¬ a = b → J x G ws k n lv st tgt) (kf : a = b → J x G ws k n lv st (pc + 3)) : J x G ws k n lv (.int (nI b) :: .int (nI a) :: st) pc :=
  J_ic_ne hC hd ht (fun c => kt (fun h => c ((nI_eq ha hb).mpr h))) (fun c => kf ((nI_eq ha hb).mp c))
theorem J_if_eqN (hC : JC x G R cc w0 own nL) {a : Nat} {off : Int} {tgt : Nat} (hd : decode cc pc = .ok (.ifCond .eq off, 3)) (ht : (pc : Int) + off = (tgt : Int)) (ha : a < 2 ^ 31) (kt : a = 0 → J x G ws k n lv st tgt) (kf : 0 < a → J x G ws k n lv st (pc + 3)) : J x G ws k n lv (.int (nI a) :: st) pc :=
  J_if_eq hC hd ht (fun c => kt ((nI_eq ha (b := 0) (by omega)).mp c)) (fun c => kf (Nat.pos_of_ne_zero fun h => c ((nI_eq ha (b := 0) (by omega)).mpr h)))
theorem J_if_neN (hC : JC x G R cc w0 own nL) {a : Nat} {off : Int} {tgt : Nat} (hd : decode cc pc = .ok (.ifCond .ne off, 3)) (ht : (pc : Int) + off = (tgt : Int)) (ha : a < 2 ^ 31) (kt : 0 < a → J x G ws k n lv st tgt) (kf : a = 0 → J x G ws k n lv st (pc + 3)) : J x G ws k n lv (.int (nI a) :: st) pc :=
  J_if_ne hC hd ht (fun c => kt (Nat.pos_of_ne_zero fun h => c ((nI_eq ha (b := 0) (by omega)).mpr h))) (fun c => kf ((nI_eq ha (b := 0) (by omega)).mp c))
theorem J_if_leN (hC : JC x G R cc w0 own nL) {a : Nat} {off : Int} {tgt : Nat} (hd : decode cc pc = .ok (.ifCond .le off, 3)) (ht : (pc : Int) + off = (tgt : Int)) (ha : a < 2 ^ 31) (kt : a = 0 → J x G ws k n lv st tgt) (kf : 0 < a → J x G ws k n lv st (pc + 3)) : J x G ws k n lv (.int (nI a) :: st) pc :=
  J_if_le hC hd ht (fun c => kt (Nat.le_zero.mp ((nI_leI ha (b := 0) (by omega)).mp c))) (fun c => kf (Nat.pos_of_ne_zero fun h => c ((nI_leI ha (b := 0) (by omega)).mpr (Nat.le_of_eq h))))
theorem J_if_ltN (hC : JC x G R cc w0 own nL) {a : Nat} {off : Int} {tgt : Nat} (hd : decode cc pc = .ok (.ifCond .lt off, 3)) (ht : (pc : Int) + off = (tgt : Int)) (ha : a < 2 ^ 31) (kf : J x G ws k n lv st (pc + 3)) : J x G ws k n lv (.int (nI a) :: st) pc :=
  J_if_lt hC hd ht (fun c => absurd c (nI_pos ha)) (fun _ => kf)
theorem J_if_geN (hC : JC x G R cc w0 own nL) {a : Nat} {off : Int} {tgt : Nat} (hd : decode cc pc = .ok (.ifCond .ge off, 3)) (ht : (pc : Int) + off = (tgt : Int)) (ha : a < 2 ^ 31) (kt : J x G ws k n lv st tgt) : J x G ws k n lv (.int (nI a) :: st) pc :=
  J_if_ge hC hd ht (fun _ => kt) (fun c => absurd (nI_pos' ha) c)
theorem J_if_gtN (hC : JC x G R cc w0 own nL) {a : Nat} {off : Int} {tgt : Nat} (hd : decode cc pc = .ok (.ifCond .gt off, 3)) (ht : (pc : Int) + off = (tgt : Int)) (ha : a < 2 ^ 31) (kt : 0 < a → J x G ws k n lv st tgt) (kf : a = 0 → J x G ws k n lv st (pc + 3)) : J x G ws k n lv (.int (nI a) :: st) pc :=
  J_if_gt hC hd ht (fun c => kt ((nI_ltI (a := 0) (by omega) ha).mp c)) (fun c => kf (Nat.eq_zero_of_not_pos fun h => c ((nI_ltI (a := 0) (by omega) ha).mpr h)))
end JJ
section JM
variable {x : JX} {G : gT} {R : Room} {cc : ByteArray} {w0 : Cond} {own : String} {nL : Nat} {ws : va_W} {k n : Nat} {lv : List (Nat × Value)} {st : List Value} {pc : Nat}
theorem J_eq {ws' : va_W} (h : ws = ws') (kk : J x G ws' k n lv st pc) : J x G ws k n lv st pc := h ▸ kk
theorem J_lv {lv' : List (Nat × Value)} (ks : List Nat) (h : lv_pick lv ks = lv') (kk : J x G ws k n lv' st pc) : J x G ws k n lv st pc :=
  fun H locs ls hP hD hS hL => kk H locs ls hP hD hS (lv_sub hL ks h)
theorem J_wid {k' n' : Nat} (hk : k ≤ k') (hn : n ≤ n') (kk : J x G ws k' n' lv st pc) : J x G ws k n lv st pc :=
  fun H locs ls hP hD hS hL => W.widen hk hn (kk H locs ls hP hD hS hL)
/-- the top of the stack, by an equation -/
theorem J_top {v w : Value} (h : v = w) (kk : J x G ws k n lv (w :: st) pc) : J x G ws k n lv (v :: st) pc := h ▸ kk
theorem J_topi {v w : Int32} (h : v = w) (kk : J x G ws k n lv (.int w :: st) pc) : J x G ws k n lv (.int v :: st) pc := h ▸ kk
/-- getfield -/
theorem J_get (hC : JC x G R cc w0 own nL) {C : String} {T : u_T} {N ci idx a : Nat} {fs : List Value} {v : Value} (hin : ∀ w ∈ u_ws C T N, w ∈ GW) (hc : vwCl[ci]? = some (C, T, N)) (hd : decode cc pc = .ok (.getfield idx, 3)) (q kf : Nat) (hk : kf < N)
    (hlink : Cond.fieldLink own idx (T kf).1 (T kf).2.1 (T kf).2.2.1 ∈ GW) (hq : ws[q]? = some (a, .inr (ci, fs))) (hv : fs[kf]? = some v) (kk : J x G ws k n lv (v :: st) (pc + 3)) : J x G ws k n lv (.ref a :: st) pc :=
  fun H locs ls hP hD hS hL => va_get hC.1 hC.2.1 hC.2.2.2.2.1 (fun w h => List.mem_cons_of_mem _ (hin w h)) hC.2.2.2.1 hC.2.2.2.2.2.1 hP q hq hc kf hk (hC.2.2.2.2.1 _ (List.mem_cons_of_mem _ hlink)) (fun _ h => h) hv hd (kk H locs ls hP hD hS hL)
/-- putfield of an int (or of any value that fits) into a field that isn't final -/
theorem J_put (hC : JC x G R cc w0 own nL) {C : String} {T : u_T} {N ci idx a : Nat} {ty : Nat → FieldType} {fs : List Value} {v : Value} {ws' : va_W} (hin : ∀ w ∈ u_ws C T N, w ∈ GW) (hc : vwCl[ci]? = some (C, T, N)) (hty : ∀ j, j < N → parseFieldDescriptor (T j).2.2.1 = some (ty j)) (hnm : ∀ a, a < N → ∀ b, b < N → a ≠ b → (T a).2.1 ≠ (T b).2.1) (hd : decode cc pc = .ok (.putfield idx, 3)) (q kf : Nat) (hk : kf < N)
    (hlink : Cond.fieldLink own idx (T kf).1 (T kf).2.1 (T kf).2.2.1 ∈ GW) (hfin : (T kf).2.2.2 = false) (hq : ws[q]? = some (a, .inr (ci, fs))) (hl : kf < fs.length) (hn : narrow (ty kf) v = v) (hf : fits (ty kf) v = true) (hw : ws.set q (a, .inr (ci, fs.set kf v)) = ws') (kk : J x G ws' k n lv st (pc + 3)) : J x G ws k n lv (v :: .ref a :: st) pc := by
  subst hw
  exact fun H locs ls hP hD hS hL => va_put hC.1 hC.2.1 hC.2.2.2.2.1 (fun w h => List.mem_cons_of_mem _ (hin w h)) ty hty hnm hC.2.2.2.1 hC.2.2.2.2.2.1 hP hD hS q hq hc kf hk (hC.2.2.2.2.1 _ (List.mem_cons_of_mem _ hlink)) (fun _ h => h) hfin (hty kf hk) hn hf hl hd (fun H1 locs1 hP1 hD1 hS1 => kk H1 locs1 ls hP1 hD1 hS1 hL)
/-- putfield of a final field, in its constructor -/
theorem J_putF (hC : JC x G R cc w0 own nL) {C : String} {T : u_T} {N ci idx a : Nat} {ty : Nat → FieldType} {fs : List Value} {v : Value} {ws' : va_W} (hin : ∀ w ∈ u_ws C T N, w ∈ GW) (hc : vwCl[ci]? = some (C, T, N)) (hty : ∀ j, j < N → parseFieldDescriptor (T j).2.2.1 = some (ty j)) (hnm : ∀ a, a < N → ∀ b, b < N → a ≠ b → (T a).2.1 ≠ (T b).2.1) (hi : (jt x).name = "<init>") (hd : decode cc pc = .ok (.putfield idx, 3)) (q kf : Nat) (hk : kf < N)
    (hlink : Cond.fieldLink own idx (T kf).1 (T kf).2.1 (T kf).2.2.1 ∈ GW) (hfin : (T kf).2.2.2 = true) (hdecl : (T kf).1 = own) (hq : ws[q]? = some (a, .inr (ci, fs))) (hl : kf < fs.length) (hn : narrow (ty kf) v = v) (hf : fits (ty kf) v = true) (hw : ws.set q (a, .inr (ci, fs.set kf v)) = ws') (kk : J x G ws' k n lv st (pc + 3)) : J x G ws k n lv (v :: .ref a :: st) pc := by
  subst hw
  exact fun H locs ls hP hD hS hL => va_putF hC.1 hC.2.1 hC.2.2.2.2.1 (fun w h => List.mem_cons_of_mem _ (hin w h)) ty hty hnm hC.2.2.2.1 hC.2.2.2.2.2.1 hP hD hS q hq hc kf hk (hC.2.2.2.2.1 _ (List.mem_cons_of_mem _ hlink)) (fun _ h => h) hfin hi hdecl (hty kf hk) hn hf hl hd (fun H1 locs1 hP1 hD1 hS1 => kk H1 locs1 ls hP1 hD1 hS1 hL)
/-- loads from arrays: at a known place i -/
theorem J_iald (hC : JC x G R cc w0 own nL) {a m i : Nat} {f : Nat → Int32} {v : Int32} (hd : decode cc pc = .ok (.iaload, 1)) (q : Nat) (hq : ws[q]? = some (a, .inl (gc G 0, m, .inl f))) (hi : i < m) (hm : m < 2 ^ 31) (hv : f i = v) (kk : J x G ws k n lv (.int v :: st) (pc + 1)) : J x G ws k n lv (.int (nI i) :: .ref a :: st) pc := by
  subst hv
  intro H locs ls hP hD hS hL
  refine va_iald hC.1 hC.2.1 hC.2.2.2.2.2.1 hP q 0 hq rfl (vp_in_nI hi hm) hd ?_
  rw [nI_clamp (by omega)]
  exact kk H locs ls hP hD hS hL
theorem J_bald (hC : JC x G R cc w0 own nL) {a m i : Nat} {f : Nat → Int32} {v : Int32} (hd : decode cc pc = .ok (.baload, 1)) (q : Nat) (hq : ws[q]? = some (a, .inl (gc G 1, m, .inl f))) (hi : i < m) (hm : m < 2 ^ 31) (hv : f i = v) (kk : J x G ws k n lv (.int v :: st) (pc + 1)) : J x G ws k n lv (.int (nI i) :: .ref a :: st) pc := by
  subst hv
  intro H locs ls hP hD hS hL
  refine va_bald hC.1 hC.2.1 hC.2.2.2.2.2.1 hP q 1 hq rfl (vp_in_nI hi hm) hd ?_
  rw [nI_clamp (by omega)]
  exact kk H locs ls hP hD hS hL
theorem J_zald (hC : JC x G R cc w0 own nL) {a m i : Nat} {f : Nat → Int32} {v : Int32} (hd : decode cc pc = .ok (.baload, 1)) (q : Nat) (hq : ws[q]? = some (a, .inl (gc G 2, m, .inl f))) (hi : i < m) (hm : m < 2 ^ 31) (hv : f i = v) (kk : J x G ws k n lv (.int v :: st) (pc + 1)) : J x G ws k n lv (.int (nI i) :: .ref a :: st) pc := by
  subst hv
  intro H locs ls hP hD hS hL
  refine va_zald hC.1 hC.2.1 hC.2.2.2.2.2.1 hP q 2 hq rfl (vp_in_nI hi hm) hd ?_
  rw [nI_clamp (by omega)]
  exact kk H locs ls hP hD hS hL
theorem J_iast (hC : JC x G R cc w0 own nL) {a m i : Nat} {f : Nat → Int32} {v : Int32} {ws' : va_W} (hd : decode cc pc = .ok (.iastore, 1)) (q : Nat) (hq : ws[q]? = some (a, .inl (gc G 0, m, .inl f))) (hi : i < m) (hm : m < 2 ^ 31) (hw : ws.set q (a, .inl (gc G 0, m, .inl (upd f i v))) = ws') (kk : J x G ws' k n lv st (pc + 1)) : J x G ws k n lv (.int v :: .int (nI i) :: .ref a :: st) pc := by
  subst hw
  intro H locs ls hP hD hS hL
  refine va_iast hC.1 hC.2.1 hC.2.2.2.2.2.1 hP hD hS q 0 hq rfl (vp_in_nI hi hm) hd (fun H1 locs1 hP1 hD1 hS1 => ?_)
  rw [nI_clamp (by omega)] at hP1 hD1
  exact kk H1 locs1 ls hP1 hD1 hS1 hL
theorem J_bast (hC : JC x G R cc w0 own nL) {a m i : Nat} {f : Nat → Int32} {v : Int32} {ws' : va_W} (hd : decode cc pc = .ok (.bastore, 1)) (q : Nat) (hq : ws[q]? = some (a, .inl (gc G 1, m, .inl f))) (hi : i < m) (hm : m < 2 ^ 31) (hw : ws.set q (a, .inl (gc G 1, m, .inl (upd f i (vp_nar .byte v)))) = ws') (kk : J x G ws' k n lv st (pc + 1)) : J x G ws k n lv (.int v :: .int (nI i) :: .ref a :: st) pc := by
  subst hw
  intro H locs ls hP hD hS hL
  refine va_bast hC.1 hC.2.1 hC.2.2.2.2.2.1 hP hD hS q 1 hq rfl (vp_in_nI hi hm) hd (fun H1 locs1 hP1 hD1 hS1 => ?_)
  rw [nI_clamp (by omega)] at hP1 hD1
  exact kk H1 locs1 ls hP1 hD1 hS1 hL
end JM
-- ENDS
def JRi {S : Type} (x : JX) (G : gT) (ty : FieldType) (post : Int32 → S → Prop) (W1 : S → va_W) (mc ms : Nat) : Prop :=
  (jt x).sig.returnType = some ty ∧ (jt x).locks = false ∧ jQ x = MQ (jb x) (va_Qi post (fun u => gB G (W1 u) (jA x)) (jA x) ) (ja x) (js x) mc ms (jA x)
def JRv {S : Type} (x : JX) (G : gT) (post : S → Prop) (W1 : S → va_W) (mc ms : Nat) : Prop :=
  (jt x).sig.returnType = none ∧ (jt x).locks = false ∧ jQ x = MQ (jb x) (va_Qv post (fun u => gB G (W1 u) (jA x)) (jA x)) (ja x) (js x) mc ms (jA x)
theorem J_iret {S : Type} {x : JX} {G : gT} {R : Room} {cc : ByteArray} {w0 : Cond} {own : String} {nL : Nat} {ws : va_W} {k n mc ms : Nat} {lv : List (Nat × Value)} {pc : Nat} {ty : FieldType} {post : Int32 → S → Prop} {W1 : S → va_W} {v : Int32} (hC : JC x G R cc w0 own nL) (hR : JRi x G ty post W1 mc ms)
    (hd : decode cc pc = .ok (.ireturn, 1)) (hn : narrow ty (.int v) = .int v) (u : S) (hp : post v u) (hw : ws = W1 u) (hk : k ≤ mc) (hs : n ≤ ms) : J x G ws k n lv [.int v] pc := by
  subst hw
  intro H locs ls hP hD hS hL
  obtain ⟨hr, hlk, hQ⟩ := hR
  rw [hQ]
  rw [hC.2.2.2.2.2.2.2.2.1] at hS
  refine W.widen hk hs ?_
  exact W.zret hC.1 hC.2.1 hr hn (fun t ht hW => ⟨⟨v, u, rfl, hp, by rw [ht]; exact hP, va_K.moved hW.alike hC.2.2.2.2.2.1, hD⟩, hS.F ht⟩) hS.2.2 hd hlk
theorem J_vret {S : Type} {x : JX} {G : gT} {R : Room} {cc : ByteArray} {w0 : Cond} {own : String} {nL : Nat} {ws : va_W} {k n mc ms : Nat} {lv : List (Nat × Value)} {pc : Nat} {post : S → Prop} {W1 : S → va_W} (hC : JC x G R cc w0 own nL) (hR : JRv x G post W1 mc ms)
    (hd : decode cc pc = .ok (.return_, 1)) (u : S) (hp : post u) (hw : ws = W1 u) (hk : k ≤ mc) (hs : n ≤ ms) : J x G ws k n lv [] pc := by
  subst hw
  intro H locs ls hP hD hS hL
  obtain ⟨hr, hlk, hQ⟩ := hR
  rw [hQ]
  rw [hC.2.2.2.2.2.2.2.2.1] at hS
  refine W.widen hk hs ?_
  exact W.vret hC.1 hC.2.1 hr (fun t ht hW => ⟨⟨u, rfl, hp, by rw [ht]; exact hP, va_K.moved hW.alike hC.2.2.2.2.2.1, hD⟩, hS.F ht⟩) hS.2.2 hd hlk
-- ENTRY
/-- contracts: a method that answers an int (MI), nothing (MV): from a world W0 to a world W1 -/
abbrev MI {S : Type} (l : Launch) (y : MethodName) (cc : ByteArray) (maxL : Nat) (ret : Option FieldType) (rm : Room) (av : List Value) (G : gT) (W0 : va_W) (post : Int32 → S → Prop) (W1 : S → va_W) : Prop := ∀ sz : Nat, Met l y (Cond.code y cc maxL ret :: GW) rm (va_Pc av (gP G W0 sz)) (va_Qi post (fun u => gB G (W1 u) (va_A W0 sz)) (va_A W0 sz)) rm.cells rm.slots (va_A W0 sz)
abbrev MV {S : Type} (l : Launch) (y : MethodName) (cc : ByteArray) (maxL : Nat) (rm : Room) (av : List Value) (G : gT) (W0 : va_W) (post : S → Prop) (W1 : S → va_W) : Prop := ∀ sz : Nat, Met l y (Cond.code y cc maxL none :: GW) rm (va_Pc av (gP G W0 sz)) (va_Qv post (fun u => gB G (W1 u) (va_A W0 sz)) (va_A W0 sz)) rm.cells rm.slots (va_A W0 sz)
/-- a method that answers an int (or boolean, char, byte): its contract out of its walk -/
theorem jm_i {S : Type} {l : Launch} {y : MethodName} {rm : Room} {cc : ByteArray} {maxL : Nat} {ty : FieldType} {av : List Value} {G : gT} {W0 : va_W} {W1 : S → va_W} {post : Int32 → S → Prop} {own : String} (hy : plainName y.cls = true) (ho : y.cls = own) (hn : (lg_sl av).length ≤ maxL)
    (body : ∀ x : JX, jl x = l → JC x G rm cc (Cond.code y cc maxL (some ty)) own maxL → JRi x G ty post W1 rm.cells rm.slots → (jt x).name = y.name → J x G W0 0 0 (lv_args 0 av) [] 0) :
    MI l y cc maxL (some ty) rm av G W0 post W1 := by
  intro sz
  refine Met.ofW (cc := cc) (maxL := maxL) (ret := some ty) hy rfl ?_
  intro p e s m args below meth c s₁ B hml hv
  subst ho
  obtain ⟨rfl, hsz, hP, hK, hD0, hE⟩ := hv
  have hts := atoms_spec (ws := Cond.code y cc maxL (some ty) :: GW) B.pre
  have hown : s.vm.findClass y.cls = some m.cls := findClass_of_methodNamed B.named
  subst hsz
  have hD := hD0.self (sz := s.heap.size)
  have hA : ∀ q : Nat, s.heap.size ≤ q → va_A W0 s.heap.size q := fun q h => Or.inr h
  have hl := lv_entry av (n := maxL) hn
  rw [lg_entry_eq]
  exact body (p, l, e, (headSpec (Cond.code y cc maxL (some ty) :: GW) rm).room, s, m, av.toArray, below, meth, c, va_A W0 s.heap.size, s.heap, MQ below (va_Qi post (fun u => gB G (W1 u) (va_A W0 s.heap.size)) (va_A W0 s.heap.size)) av.toArray s rm.cells rm.slots (va_A W0 s.heap.size)) rfl
    ⟨B.exec, B.bytes, hml, hown, hts, hK, hA, rfl, rfl, hE⟩ ⟨B.returns, B.notSynchronized, rfl⟩ (name_of_methodNamed B.named B.method).1 s.heap [] _ hP hD va_S.rf (hml ▸ hl)
theorem jm_v {S : Type} {l : Launch} {y : MethodName} {rm : Room} {cc : ByteArray} {maxL : Nat} {av : List Value} {G : gT} {W0 : va_W} {W1 : S → va_W} {post : S → Prop} {own : String} (hy : plainName y.cls = true) (ho : y.cls = own) (hn : (lg_sl av).length ≤ maxL)
    (body : ∀ x : JX, jl x = l → JC x G rm cc (Cond.code y cc maxL none) own maxL → JRv x G post W1 rm.cells rm.slots → (jt x).name = y.name → J x G W0 0 0 (lv_args 0 av) [] 0) :
    MV l y cc maxL rm av G W0 post W1 := by
  intro sz
  refine Met.ofW (cc := cc) (maxL := maxL) (ret := none) hy rfl ?_
  intro p e s m args below meth c s₁ B hml hv
  subst ho
  obtain ⟨rfl, hsz, hP, hK, hD0, hE⟩ := hv
  have hts := atoms_spec (ws := Cond.code y cc maxL none :: GW) B.pre
  have hown : s.vm.findClass y.cls = some m.cls := findClass_of_methodNamed B.named
  subst hsz
  have hD := hD0.self (sz := s.heap.size)
  have hA : ∀ q : Nat, s.heap.size ≤ q → va_A W0 s.heap.size q := fun q h => Or.inr h
  have hl := lv_entry av (n := maxL) hn
  rw [lg_entry_eq]
  exact body (p, l, e, (headSpec (Cond.code y cc maxL none :: GW) rm).room, s, m, av.toArray, below, meth, c, va_A W0 s.heap.size, s.heap, MQ below (va_Qv post (fun u => gB G (W1 u) (va_A W0 s.heap.size)) (va_A W0 s.heap.size)) av.toArray s rm.cells rm.slots (va_A W0 s.heap.size)) rfl
    ⟨B.exec, B.bytes, hml, hown, hts, hK, hA, rfl, rfl, hE⟩ ⟨B.returns, B.notSynchronized, rfl⟩ (name_of_methodNamed B.named B.method).1 s.heap [] _ hP hD va_S.rf (hml ▸ hl)
-- CALLS
/-- the words of a callee by invokevirtual, out of the caller's -/
theorem gwV {w0 : Cond} {own C : String} {idx maxL : Nat} {y : MethodName} {cc : ByteArray} {ret : Option FieldType} (h1 : Cond.methodLink own idx y ∈ GW) (h2 : Cond.instanceMethod y ∈ GW) (h3 : Cond.selects C y y ∈ GW) (h4 : Cond.initialized C ∈ GW) (h5 : Cond.code y cc maxL ret ∈ GW) : GoodIn (w0 :: GW) (wsV own idx C y (Cond.code y cc maxL ret :: GW)) := by
  have K : ∀ w ∈ wsV own idx C y (Cond.code y cc maxL ret :: GW), w ∈ GW := by
    intro w hw
    simp only [wsV, List.mem_append, List.mem_cons, List.not_mem_nil, or_false] at hw
    rcases hw with (rfl | rfl | rfl | rfl) | rfl | hw
    · exact h1
    · exact h2
    · exact h3
    · exact h4
    · exact h5
    · exact hw
  exact fun w hw => ⟨List.mem_cons_of_mem _ (K w hw), gw_good w (K w hw)⟩
theorem gwS {w0 : Cond} {own : String} {idx maxL : Nat} {y : MethodName} {cc : ByteArray} {ret : Option FieldType} (h1 : Cond.methodLink own idx y ∈ GW) (h2 : Cond.static y ∈ GW) (h4 : Cond.initialized own ∈ GW) (h5 : Cond.code y cc maxL ret ∈ GW) : GoodIn (w0 :: GW) (wsS own idx y (Cond.code y cc maxL ret :: GW)) := by
  have K : ∀ w ∈ wsS own idx y (Cond.code y cc maxL ret :: GW), w ∈ GW := by
    intro w hw
    simp only [wsS, List.mem_append, List.mem_cons, List.not_mem_nil, or_false] at hw
    rcases hw with (rfl | rfl | rfl) | rfl | hw
    · exact h1
    · exact h2
    · exact h4
    · exact h5
    · exact hw
  exact fun w hw => ⟨List.mem_cons_of_mem _ (K w hw), gw_good w (K w hw)⟩
/-- what the tables say of a method that is called by invokevirtual (YV) or invokestatic (YS) -/
def YV (y : MethodName) (C : String) (cc : ByteArray) (maxL : Nat) (ret : Option FieldType) (na : Nat) : Prop := Cond.instanceMethod y ∈ GW ∧ Cond.selects C y y ∈ GW ∧ Cond.initialized C ∈ GW ∧ Cond.code y cc maxL ret ∈ GW ∧ (y.cls = C ∧ y.cls ≠ "java/lang/invoke/MethodHandle" ∧ y.cls ≠ "java/lang/invoke/VarHandle" ∧ (parseMethodDescriptor y.desc).map (fun d => d.parameters.length) = some na)
def YS (y : MethodName) (C : String) (cc : ByteArray) (maxL : Nat) (ret : Option FieldType) (na : Nat) : Prop := Cond.static y ∈ GW ∧ Cond.initialized C ∈ GW ∧ Cond.code y cc maxL ret ∈ GW ∧ (y.cls = C ∧ y.cls ≠ "java/lang/invoke/MethodHandle" ∧ y.cls ≠ "java/lang/invoke/VarHandle" ∧ (parseMethodDescriptor y.desc).map (fun d => d.parameters.length) = some na)
theorem va_A_in {A : Nat → Prop} {ws : va_W} {H0 H : Heap} {locs : List Loc} (hD : va_D A ws) (hS : va_S A H0 H locs) (hA : ∀ q : Nat, H0.size ≤ q → A q) : ∀ q, va_A ws H.size q → A q := by
  intro q h
  rcases h with ⟨k, e, h⟩ | h
  · exact hD.2 k (q, e) h
  · exact hA q (Nat.le_trans hS.1 h)
section JCALL
variable {S : Type} {x : JX} {G : gT} {R : Room} {cc : ByteArray} {w0 : Cond} {own : String} {nL : Nat} {ws : va_W} {k n : Nat} {lv : List (Nat × Value)} {st rest : List Value} {pc : Nat}
variable {C : String} {idx maxLY na : Nat} {y : MethodName} {ccY : ByteArray} {ret : Option FieldType} {rmY : Room} {As : List Value} {b : Nat}
theorem J_callVi {post : Int32 → S → Prop} {W1 : S → va_W} {T : u_T} {N : Nat} {fs : List Value} (hC : JC x G R cc w0 own nL) (hd : decode cc pc = .ok (.invokevirtual idx, 3)) (hl : Cond.methodLink own idx y ∈ GW) (hY : YV y C ccY maxLY ret na)
    (hM : MI (jl x) y ccY maxLY ret rmY (.ref b :: As) G ws post W1)
    (hst : st = As.reverse ++ .ref b :: rest) (hna : As.length = na) (q ci : Nat) (hq : ws[q]? = some (b, .inr (ci, fs))) (hc : vwCl[ci]? = some (C, T, N))
    (hR : rmY.frames + 1 ≤ R.frames ∧ 8 + (maxLY + 11) + rmY.locals ≤ R.locals) (hcat : (rest.map fun v => v.category).sum ≤ 8) (hk : k + rmY.cells ≤ R.cells) (hn : n + rmY.slots ≤ R.slots)
    (kk : ∀ (r : Int32) (u : S), post r u → J x G (W1 u) (k + rmY.cells) (n + rmY.slots) lv (.int r :: rest) (pc + 3)) : J x G ws k n lv st pc := by
  intro H locs ls hP hD hS hL
  have hK := hC.2.2.2.2.2.1
  have hRR : jR x = R := hC.2.2.2.2.2.2.2.1
  have hE := hC.2.2.2.2.2.2.2.2.2
  have hF := va_A_in hD hS hC.2.2.2.2.2.2.1
  refine va_calli (va_runV (As := As) (rest := rest) ⟨hC.1, hC.2.1, hC.2.2.1, hC.2.2.2.1, hC.2.2.2.2.1⟩ (hM H.size) (cwV na hC.2.2.2.2.1 (gwV hl hY.1 hY.2.1 hY.2.2.1 hY.2.2.2.1) rfl rfl rfl hY.2.2.2.2 (by rw [hRR]; exact hR)) ⟨gP_blind _ _ _ _, va_recv hK hP hc hq, fun U hU hW => ⟨rfl, by rw [hU], by rw [hU]; exact hP, va_K.moved hW.alike hK, hD.weaken (fun _ _ _ _ => trivial), hE.step hW (by rw [hU]; intro q hq hn; rw [hC.2.2.2.2.2.2.2.2.1] at hS; exact hS.2.1 q hq hn) hF⟩⟩ rfl hna (hL.1.trans hC.2.2.1) hst (lv_room hcat) hd (by rw [hRR]; exact ⟨hk, hn⟩)) hS (fun q _ h => hF q h) hF (fun r u t H1 locs1 ht hvm hw hB hz hk1 hS1 => ?_)
  obtain ⟨hP1, hK1, hD1⟩ := hB
  rw [ht] at hP1
  exact kk r u hw H1 locs1 ls hP1 (hD1.weaken (fun _ _ _ h => hF _ h)) hS1 hL
theorem J_callVv {post : S → Prop} {W1 : S → va_W} {T : u_T} {N : Nat} {fs : List Value} (hC : JC x G R cc w0 own nL) (hd : decode cc pc = .ok (.invokevirtual idx, 3)) (hl : Cond.methodLink own idx y ∈ GW) (hY : YV y C ccY maxLY none na)
    (hM : MV (jl x) y ccY maxLY rmY (.ref b :: As) G ws post W1)
    (hst : st = As.reverse ++ .ref b :: rest) (hna : As.length = na) (q ci : Nat) (hq : ws[q]? = some (b, .inr (ci, fs))) (hc : vwCl[ci]? = some (C, T, N))
    (hR : rmY.frames + 1 ≤ R.frames ∧ 8 + (maxLY + 11) + rmY.locals ≤ R.locals) (hcat : (rest.map fun v => v.category).sum ≤ 8) (hk : k + rmY.cells ≤ R.cells) (hn : n + rmY.slots ≤ R.slots)
    (kk : ∀ (u : S), post u → J x G (W1 u) (k + rmY.cells) (n + rmY.slots) lv rest (pc + 3)) : J x G ws k n lv st pc := by
  intro H locs ls hP hD hS hL
  have hK := hC.2.2.2.2.2.1
  have hRR : jR x = R := hC.2.2.2.2.2.2.2.1
  have hE := hC.2.2.2.2.2.2.2.2.2
  have hF := va_A_in hD hS hC.2.2.2.2.2.2.1
  refine va_callv (va_runV (As := As) (rest := rest) ⟨hC.1, hC.2.1, hC.2.2.1, hC.2.2.2.1, hC.2.2.2.2.1⟩ (hM H.size) (cwV na hC.2.2.2.2.1 (gwV hl hY.1 hY.2.1 hY.2.2.1 hY.2.2.2.1) rfl rfl rfl hY.2.2.2.2 (by rw [hRR]; exact hR)) ⟨gP_blind _ _ _ _, va_recv hK hP hc hq, fun U hU hW => ⟨rfl, by rw [hU], by rw [hU]; exact hP, va_K.moved hW.alike hK, hD.weaken (fun _ _ _ _ => trivial), hE.step hW (by rw [hU]; intro q hq hn; rw [hC.2.2.2.2.2.2.2.2.1] at hS; exact hS.2.1 q hq hn) hF⟩⟩ rfl hna (hL.1.trans hC.2.2.1) hst (lv_room hcat) hd (by rw [hRR]; exact ⟨hk, hn⟩)) hS (fun q _ h => hF q h) hF (fun u t H1 locs1 ht hvm hw hB hz hk1 hS1 => ?_)
  obtain ⟨hP1, hK1, hD1⟩ := hB
  rw [ht] at hP1
  exact kk u hw H1 locs1 ls hP1 (hD1.weaken (fun _ _ _ h => hF _ h)) hS1 hL
theorem J_callSi {post : Int32 → S → Prop} {W1 : S → va_W} (hC : JC x G R cc w0 own nL) (hd : decode cc pc = .ok (.invokestatic idx, 3)) (hl : Cond.methodLink own idx y ∈ GW) (hio : Cond.initialized own ∈ GW) (hY : YS y C ccY maxLY ret na)
    (hM : MI (jl x) y ccY maxLY ret rmY As G ws post W1)
    (hst : st = As.reverse ++ rest) (hna : As.length = na)
    (hR : rmY.frames + 1 ≤ R.frames ∧ 8 + (maxLY + 11) + rmY.locals ≤ R.locals) (hcat : (rest.map fun v => v.category).sum ≤ 8) (hk : k + rmY.cells ≤ R.cells) (hn : n + rmY.slots ≤ R.slots)
    (kk : ∀ (r : Int32) (u : S), post r u → J x G (W1 u) (k + rmY.cells) (n + rmY.slots) lv (.int r :: rest) (pc + 3)) : J x G ws k n lv st pc := by
  intro H locs ls hP hD hS hL
  have hK := hC.2.2.2.2.2.1
  have hRR : jR x = R := hC.2.2.2.2.2.2.2.1
  have hE := hC.2.2.2.2.2.2.2.2.2
  have hF := va_A_in hD hS hC.2.2.2.2.2.2.1
  have ht0 := hC.2.2.2.2.1
  refine va_calli (va_runS (As := As) (rest := rest) ⟨hC.1, hC.2.1, hC.2.2.1, hC.2.2.2.1, hC.2.2.2.2.1⟩ (hM H.size) ⟨callB_of na ht0 (fun w hw => (gwS (w0 := w0) hl hY.1 hio hY.2.2.1) w (by unfold wsS; exact List.mem_append_right _ hw)) rfl rfl rfl (ht0 _ (List.mem_cons_of_mem _ (by rw [hY.2.2.2.1]; exact hY.2.1))) (ht0 _ (List.mem_cons_of_mem _ hl)) hY.2.2.2.2 (by rw [hRR]; exact hR), ht0 _ (List.mem_cons_of_mem _ hY.1)⟩ ⟨gP_blind _ _ _ _, fun U hU hW => ⟨rfl, by rw [hU], by rw [hU]; exact hP, va_K.moved hW.alike hK, hD.weaken (fun _ _ _ _ => trivial), hE.step hW (by rw [hU]; intro q hq hn; rw [hC.2.2.2.2.2.2.2.2.1] at hS; exact hS.2.1 q hq hn) hF⟩⟩ rfl hna (hL.1.trans hC.2.2.1) hst (lv_room hcat) hd (by rw [hRR]; exact ⟨hk, hn⟩)) hS (fun q _ h => hF q h) hF (fun r u t H1 locs1 ht hvm hw hB hz hk1 hS1 => ?_)
  obtain ⟨hP1, hK1, hD1⟩ := hB
  rw [ht] at hP1
  exact kk r u hw H1 locs1 ls hP1 (hD1.weaken (fun _ _ _ h => hF _ h)) hS1 hL
theorem J_callSv {post : S → Prop} {W1 : S → va_W} (hC : JC x G R cc w0 own nL) (hd : decode cc pc = .ok (.invokestatic idx, 3)) (hl : Cond.methodLink own idx y ∈ GW) (hio : Cond.initialized own ∈ GW) (hY : YS y C ccY maxLY none na)
    (hM : MV (jl x) y ccY maxLY rmY As G ws post W1)
    (hst : st = As.reverse ++ rest) (hna : As.length = na)
    (hR : rmY.frames + 1 ≤ R.frames ∧ 8 + (maxLY + 11) + rmY.locals ≤ R.locals) (hcat : (rest.map fun v => v.category).sum ≤ 8) (hk : k + rmY.cells ≤ R.cells) (hn : n + rmY.slots ≤ R.slots)
    (kk : ∀ (u : S), post u → J x G (W1 u) (k + rmY.cells) (n + rmY.slots) lv rest (pc + 3)) : J x G ws k n lv st pc := by
  intro H locs ls hP hD hS hL
  have hK := hC.2.2.2.2.2.1
  have hRR : jR x = R := hC.2.2.2.2.2.2.2.1
  have hE := hC.2.2.2.2.2.2.2.2.2
  have hF := va_A_in hD hS hC.2.2.2.2.2.2.1
  have ht0 := hC.2.2.2.2.1
  refine va_callv (va_runS (As := As) (rest := rest) ⟨hC.1, hC.2.1, hC.2.2.1, hC.2.2.2.1, hC.2.2.2.2.1⟩ (hM H.size) ⟨callB_of na ht0 (fun w hw => (gwS (w0 := w0) hl hY.1 hio hY.2.2.1) w (by unfold wsS; exact List.mem_append_right _ hw)) rfl rfl rfl (ht0 _ (List.mem_cons_of_mem _ (by rw [hY.2.2.2.1]; exact hY.2.1))) (ht0 _ (List.mem_cons_of_mem _ hl)) hY.2.2.2.2 (by rw [hRR]; exact hR), ht0 _ (List.mem_cons_of_mem _ hY.1)⟩ ⟨gP_blind _ _ _ _, fun U hU hW => ⟨rfl, by rw [hU], by rw [hU]; exact hP, va_K.moved hW.alike hK, hD.weaken (fun _ _ _ _ => trivial), hE.step hW (by rw [hU]; intro q hq hn; rw [hC.2.2.2.2.2.2.2.2.1] at hS; exact hS.2.1 q hq hn) hF⟩⟩ rfl hna (hL.1.trans hC.2.2.1) hst (lv_room hcat) hd (by rw [hRR]; exact ⟨hk, hn⟩)) hS (fun q _ h => hF q h) hF (fun u t H1 locs1 ht hvm hw hB hz hk1 hS1 => ?_)
  obtain ⟨hP1, hK1, hD1⟩ := hB
  rw [ht] at hP1
  exact kk u hw H1 locs1 ls hP1 (hD1.weaken (fun _ _ _ h => hF _ h)) hS1 hL
end JCALL
-- THE FRAME RULE OF A CONTRACT
theorem va_P_iff {D : va_G} {cl : List vw_C} {ws : va_W} {H : Heap} : va_P D cl ws H ↔ ∀ q ∈ ws, va_at D cl q H :=
  ⟨fun h q hq => by obtain ⟨k, hk⟩ := List.getElem?_of_mem hq; exact h k q hk, fun h k q hk => h q (List.mem_of_getElem? hk)⟩
theorem va_D_iff {A : Nat → Prop} {ws : va_W} : va_D A ws ↔ (ws.map Prod.fst).Nodup ∧ ∀ q ∈ ws, A q.1 := by
  constructor
  · intro h
    refine ⟨?_, fun q hq => by obtain ⟨k, hk⟩ := List.getElem?_of_mem hq; exact h.2 k q hk⟩
    rw [List.Nodup, List.pairwise_iff_getElem]
    intro i j hi hj hij e
    rw [List.length_map] at hi hj
    rw [List.getElem_map, List.getElem_map] at e
    have := h.1 i j ws[i] ws[j] (List.getElem?_eq_getElem hi) (List.getElem?_eq_getElem hj) e
    omega
  · intro h
    refine ⟨fun i j p q hp hq e => ?_, fun k q hk => h.2 q (List.mem_of_getElem? hk)⟩
    obtain ⟨hi, ei⟩ := List.getElem?_eq_some_iff.mp hp
    obtain ⟨hj, ej⟩ := List.getElem?_eq_some_iff.mp hq
    have hn := h.1
    rw [List.Nodup, List.pairwise_iff_getElem] at hn
    rcases Nat.lt_trichotomy i j with c | c | c
    · exact absurd (by rw [List.getElem_map, List.getElem_map, ei, ej, e]) (hn i j (by rw [List.length_map]; exact hi) (by rw [List.length_map]; exact hj) c)
    · exact c
    · exact absurd (by rw [List.getElem_map, List.getElem_map, ei, ej, e]) (hn j i (by rw [List.length_map]; exact hj) (by rw [List.length_map]; exact hi) c)
theorem va_P_perm {D : va_G} {cl : List vw_C} {w1 w2 : va_W} {H : Heap} (h : w1.Perm w2) (hP : va_P D cl w1 H) : va_P D cl w2 H := va_P_iff.mpr fun q hq => va_P_iff.mp hP q (h.mem_iff.mpr hq)
theorem va_D_perm {A : Nat → Prop} {w1 w2 : va_W} (h : w1.Perm w2) (hD : va_D A w1) : va_D A w2 := by
  have hd := va_D_iff.mp hD
  exact va_D_iff.mpr ⟨((h.map Prod.fst).nodup_iff).mp hd.1, fun q hq => hd.2 q (h.mem_iff.mpr hq)⟩
theorem va_A_iff {ws : va_W} {sz q : Nat} : va_A ws sz q ↔ (∃ e, (q, e) ∈ ws) ∨ sz ≤ q :=
  ⟨fun h => h.elim (fun ⟨k, e, hk⟩ => Or.inl ⟨e, List.mem_of_getElem? hk⟩) Or.inr, fun h => h.elim (fun ⟨e, he⟩ => by obtain ⟨k, hk⟩ := List.getElem?_of_mem he; exact Or.inl ⟨k, e, hk⟩) Or.inr⟩
theorem fr_go {G : gT} {W0 wc wr w1 W1 : va_W} {sz : Nat} {s t : State} (h0 : W0.Perm (wc ++ wr)) (h1 : (w1 ++ wr).Perm W1) (hp : gP G W0 sz s) (hB : gB G w1 (va_A wc sz) t) (hF : va_F (va_A wc sz) s t) : gB G W1 (va_A W0 sz) t ∧ va_F (va_A W0 sz) s t := by
  obtain ⟨hsz, hP, hK, hD, hE⟩ := hp
  obtain ⟨hP1, hK1, hD1⟩ := hB
  have hP2 := va_P_perm h0 hP
  have hD2 := va_D_perm h0 hD
  have mono : ∀ q, va_A wc sz q → va_A W0 sz q := fun q h => va_A_iff.mpr ((va_A_iff.mp h).elim (fun ⟨e, he⟩ => Or.inl ⟨e, h0.mem_iff.mpr (List.mem_append_left _ he)⟩) Or.inr)
  have hdd := va_D_iff.mp hD2
  rw [List.map_append, List.nodup_append] at hdd
  have far : ∀ q ∈ wr, q.1 < s.heap.size ∧ ¬ va_A wc sz q.1 := by
    intro q hq
    have hl := (va_P_iff.mp hP2 q (List.mem_append_right _ hq)).lt
    refine ⟨hl, fun h => ?_⟩
    rcases va_A_iff.mp h with ⟨e, he⟩ | h
    · exact hdd.1.2.2 q.1 (List.mem_map.mpr ⟨_, he, rfl⟩) q.1 (List.mem_map.mpr ⟨_, hq, rfl⟩) rfl
    · omega
  refine ⟨⟨va_P_perm h1 (va_P_iff.mpr fun q hq => ?_), hK1, va_D_perm h1 (va_D_iff.mpr ⟨?_, fun q hq => ?_⟩)⟩, hF.1, fun q h2 h3 => hF.2 q h2 (fun h => h3 (mono q h))⟩
  · rcases List.mem_append.mp hq with h | h
    · exact va_P_iff.mp hP1 q h
    · exact (va_P_iff.mp hP2 q (List.mem_append_right _ h)).kept (hF.2 q.1 (far q h).1 (far q h).2)
  · rw [List.map_append, List.nodup_append]
    refine ⟨(va_D_iff.mp hD1).1, hdd.1.2.1, fun a ha b hb e => ?_⟩
    obtain ⟨p, hp, rfl⟩ := List.mem_map.mp ha
    obtain ⟨r, hr, rfl⟩ := List.mem_map.mp hb
    exact (far r hr).2 (by rw [← e]; exact (va_D_iff.mp hD1).2 p hp)
  · rcases List.mem_append.mp hq with h | h
    · exact mono _ ((va_D_iff.mp hD1).2 q h)
    · exact va_A_iff.mpr (Or.inl ⟨q.2, h0.mem_iff.mpr (List.mem_append_right _ h)⟩)
theorem fr_sub {G : gT} {W0 wc wr : va_W} {sz : Nat} {s : State} (h0 : W0.Perm (wc ++ wr)) (hp : gP G W0 sz s) : gP G wc sz s := by
  obtain ⟨hsz, hP, hK, hD, hE⟩ := hp
  refine ⟨hsz, va_P_iff.mpr fun q hq => va_P_iff.mp hP q (h0.mem_iff.mpr (List.mem_append_left _ hq)), hK, va_D_iff.mpr ⟨?_, fun _ _ => trivial⟩, hE.narrow (fun q h => va_A_iff.mpr ((va_A_iff.mp h).elim (fun ⟨e, he⟩ => Or.inl ⟨e, h0.mem_iff.mpr (List.mem_append_left _ he)⟩) Or.inr))⟩
  have := (va_D_iff.mp (va_D_perm h0 hD)).1
  rw [List.map_append, List.nodup_append] at this
  exact this.1
theorem fr_mono {W0 wc wr : va_W} {sz : Nat} (h0 : W0.Perm (wc ++ wr)) : ∀ q, va_A wc sz q → va_A W0 sz q := fun q h => va_A_iff.mpr ((va_A_iff.mp h).elim (fun ⟨e, he⟩ => Or.inl ⟨e, h0.mem_iff.mpr (List.mem_append_left _ he)⟩) Or.inr)
section FR
variable {S : Type} {l : Launch} {y : MethodName} {ws : List Cond} {rm : Room} {av : List Value} {G : gT} {W0 wc wr : va_W} {w1 W1 : S → va_W} {mc ms : Nat}
theorem fr_i {post : Int32 → S → Prop} (hM : ∀ sz : Nat, Met l y ws rm (va_Pc av (gP G wc sz)) (va_Qi post (fun u => gB G (w1 u) (va_A wc sz)) (va_A wc sz)) mc ms (va_A wc sz)) (h0 : W0.Perm (wc ++ wr)) (h1 : ∀ u, (w1 u ++ wr).Perm (W1 u)) :
    ∀ sz : Nat, Met l y ws rm (va_Pc av (gP G W0 sz)) (va_Qi post (fun u => gB G (W1 u) (va_A W0 sz)) (va_A W0 sz)) mc ms (va_A W0 sz) := by
  intro sz p e ha hc hk s m args below hf happ hP hKt
  obtain ⟨n, o, g1, g2, g3, ⟨⟨r, u, ho, hpost, hB⟩, hF⟩, L, hFE, hL⟩ := hM sz p e ha hc hk s m args below hf happ ⟨hP.1, fr_sub h0 hP.2⟩ trivial
  obtain ⟨hB2, hF2⟩ := fr_go h0 (h1 u) hP.2 hB hF
  exact ⟨n, o, g1, g2, g3, ⟨⟨r, u, ho, hpost, hB2⟩, hF2⟩, L, hFE, fun q hq => fr_mono h0 _ (hL q hq)⟩
theorem fr_v {post : S → Prop} (hM : ∀ sz : Nat, Met l y ws rm (va_Pc av (gP G wc sz)) (va_Qv post (fun u => gB G (w1 u) (va_A wc sz)) (va_A wc sz)) mc ms (va_A wc sz)) (h0 : W0.Perm (wc ++ wr)) (h1 : ∀ u, (w1 u ++ wr).Perm (W1 u)) :
    ∀ sz : Nat, Met l y ws rm (va_Pc av (gP G W0 sz)) (va_Qv post (fun u => gB G (W1 u) (va_A W0 sz)) (va_A W0 sz)) mc ms (va_A W0 sz) := by
  intro sz p e ha hc hk s m args below hf happ hP hKt
  obtain ⟨n, o, g1, g2, g3, ⟨⟨u, ho, hpost, hB⟩, hF⟩, L, hFE, hL⟩ := hM sz p e ha hc hk s m args below hf happ ⟨hP.1, fr_sub h0 hP.2⟩ trivial
  obtain ⟨hB2, hF2⟩ := fr_go h0 (h1 u) hP.2 hB hF
  exact ⟨n, o, g1, g2, g3, ⟨⟨u, ho, hpost, hB2⟩, hF2⟩, L, hFE, fun q hq => fr_mono h0 _ (hL q hq)⟩
end FR

/-! THE WALKING JUDGEMENT J: the machine at a pc, over data alone (the world's cells, the locals that matter, the stack), for any heap that holds them. -/
abbrev gT : Type := va_G × (Nat → ClassId)
/-- the array classes of the world: int, byte, boolean, State, long, double -/
abbrev tyl (G : gT) : List (ClassId × FieldType) := [(G.2 0, .int), (G.2 1, .byte), (G.2 2, .boolean), (G.2 3, .object "AlmanacOffice$State"), (G.2 4, .long), (G.2 5, .double)]
def gP (G : gT) (ws : va_W) (sz : Nat) (U : State) : Prop := U.heap.size = sz ∧ va_P G.1 vwCl ws U.heap ∧ va_K G.1 vwCl (tyl G) U ∧ va_D (fun _ => True) ws
def gB (G : gT) (ws : va_W) (A : Nat → Prop) (t : State) : Prop := va_P G.1 vwCl ws t.heap ∧ va_K G.1 vwCl (tyl G) t ∧ va_D A ws
theorem gP_blind (G : gT) (av : List Value) (ws : va_W) (sz : Nat) : FrameBlind (va_Pc av (gP G ws sz)) := fun a U g mk h => ⟨h.1, h.2.1, h.2.2.1, va_K.moved (u := U) (U := U.calling g mk a) (Vm.Alike.refl U.vm) h.2.2.2.1, h.2.2.2.2⟩
abbrev JX : Type := Program × Launch × Env × Room × State × MethodId × Array Value × List Frame × Method × Code × (Nat → Prop) × Heap × (State → Prop)
abbrev jp (x : JX) : Program := x.1
abbrev jl (x : JX) : Launch := x.2.1
abbrev je (x : JX) : Env := x.2.2.1
abbrev jR (x : JX) : Room := x.2.2.2.1
abbrev js (x : JX) : State := x.2.2.2.2.1
abbrev jm (x : JX) : MethodId := x.2.2.2.2.2.1
abbrev ja (x : JX) : Array Value := x.2.2.2.2.2.2.1
abbrev jb (x : JX) : List Frame := x.2.2.2.2.2.2.2.1
abbrev jt (x : JX) : Method := x.2.2.2.2.2.2.2.2.1
abbrev jc (x : JX) : Code := x.2.2.2.2.2.2.2.2.2.1
abbrev jA (x : JX) : Nat → Prop := x.2.2.2.2.2.2.2.2.2.2.1
abbrev jH (x : JX) : Heap := x.2.2.2.2.2.2.2.2.2.2.2.1
abbrev jQ (x : JX) : State → Prop := x.2.2.2.2.2.2.2.2.2.2.2.2
def J (x : JX) (G : gT) (ws : va_W) (k n : Nat) (lv : List (Nat × Value)) (st : List Value) (pc : Nat) : Prop :=
  ∀ (H : Heap) (locs : List Loc) (ls : Array Slot), va_P G.1 vwCl ws H → va_D (jA x) ws → va_S (jA x) (jH x) H locs → lv_has ls (jc x).maxLocals lv →
    W (jp x) (jl x) (je x) (jR x) (js x) (jm x) (ja x) (jb x) (jt x) (jc x) H locs k n (jQ x) (F0 (jm x) pc ls st)
def JC (x : JX) (G : gT) (R : Room) (cc : ByteArray) (Ts : List Cond) (own : String) (nL : Nat) : Prop :=
  (jp x).tables.exec = Jvm.exec ∧ (jc x).code = cc ∧ (jc x).maxLocals = nL ∧ (js x).vm.findClass own = some (jm x).cls ∧ (∀ w ∈ Ts, w.before (ja x) (js x) = true) ∧
  va_K G.1 vwCl (tyl G) (js x) ∧ (∀ q : Nat, (jH x).size ≤ q → jA x q) ∧ jR x = R
section JJ
variable {x : JX} {G : gT} {R : Room} {cc : ByteArray} {Ts : List Cond} {own : String} {nL : Nat} {ws : va_W} {k n : Nat} {lv : List (Nat × Value)} {st : List Value} {pc : Nat}
theorem J_aload_n (hC : JC x G R cc Ts own nL) {f : Fin 4} {i a : Nat} (hd : decode cc pc = .ok (.aload_n f, 1)) (j : Nat) (hi : (f : Nat) = i) (hl : lv[j]? = some (i, .ref a)) (kk : J x G ws k n lv (.ref a :: st) (pc + 1)) : J x G ws k n lv st pc :=
  fun H locs ls hP hD hS hL => lv_aload_n hC.1 hC.2.1 hd hi (lv_at hL j hl) (kk H locs ls hP hD hS hL)
theorem J_aload (hC : JC x G R cc Ts own nL) {i a : Nat} (hd : decode cc pc = .ok (.aload i, 2)) (j : Nat) (hl : lv[j]? = some (i, .ref a)) (kk : J x G ws k n lv (.ref a :: st) (pc + 2)) : J x G ws k n lv st pc :=
  fun H locs ls hP hD hS hL => lv_aload hC.1 hC.2.1 hd (lv_at hL j hl) (kk H locs ls hP hD hS hL)
theorem J_iload_n (hC : JC x G R cc Ts own nL) {f : Fin 4} {i : Nat} {v : Int32} (hd : decode cc pc = .ok (.iload_n f, 1)) (j : Nat) (hi : (f : Nat) = i) (hl : lv[j]? = some (i, .int v)) (kk : J x G ws k n lv (.int v :: st) (pc + 1)) : J x G ws k n lv st pc :=
  fun H locs ls hP hD hS hL => lv_iload_n hC.1 hC.2.1 hd hi (lv_at hL j hl) (kk H locs ls hP hD hS hL)
theorem J_iload (hC : JC x G R cc Ts own nL) {i : Nat} {v : Int32} (hd : decode cc pc = .ok (.iload i, 2)) (j : Nat) (hl : lv[j]? = some (i, .int v)) (kk : J x G ws k n lv (.int v :: st) (pc + 2)) : J x G ws k n lv st pc :=
  fun H locs ls hP hD hS hL => lv_iload hC.1 hC.2.1 hd (lv_at hL j hl) (kk H locs ls hP hD hS hL)
theorem J_dload (hC : JC x G R cc Ts own nL) {i : Nat} {v : UInt64} (hd : decode cc pc = .ok (.dload i, 2)) (j : Nat) (hl : lv[j]? = some (i, .double v)) (kk : J x G ws k n lv (.double v :: st) (pc + 2)) : J x G ws k n lv st pc :=
  fun H locs ls hP hD hS hL => lv_dload hC.1 hC.2.1 hd (lv_at hL j hl) (kk H locs ls hP hD hS hL)
theorem J_iconst (hC : JC x G R cc Ts own nL) {c : Int} {v : Int32} (hd : decode cc pc = .ok (.iconst c, 1)) (hv : Int32.ofInt c = v) (kk : J x G ws k n lv (.int v :: st) (pc + 1)) : J x G ws k n lv st pc :=
  fun H locs ls hP hD hS hL => lv_iconst hC.1 hC.2.1 hd hv (kk H locs ls hP hD hS hL)
theorem J_bipush (hC : JC x G R cc Ts own nL) {c : Int} {v : Int32} (hd : decode cc pc = .ok (.bipush c, 2)) (hv : (Int8.ofInt c).toInt32 = v) (kk : J x G ws k n lv (.int v :: st) (pc + 2)) : J x G ws k n lv st pc :=
  fun H locs ls hP hD hS hL => lv_bipush hC.1 hC.2.1 hd hv (kk H locs ls hP hD hS hL)
theorem J_sipush (hC : JC x G R cc Ts own nL) {c : Int} {v : Int32} (hd : decode cc pc = .ok (.sipush c, 3)) (hv : (Int16.ofInt c).toInt32 = v) (kk : J x G ws k n lv (.int v :: st) (pc + 3)) : J x G ws k n lv st pc :=
  fun H locs ls hP hD hS hL => lv_sipush hC.1 hC.2.1 hd hv (kk H locs ls hP hD hS hL)
theorem J_ldc (hC : JC x G R cc Ts own nL) {i : Nat} {v : Int32} (hd : decode cc pc = .ok (.ldc i, 2)) (hw : Cond.constant own i v ∈ Ts) (kk : J x G ws k n lv (.int v :: st) (pc + 2)) : J x G ws k n lv st pc :=
  fun H locs ls hP hD hS hL => lv_ldc hC.1 hC.2.1 hC.2.2.2.1 (hC.2.2.2.2.1 _ hw) hd (kk H locs ls hP hD hS hL)
theorem J_istore_n (hC : JC x G R cc Ts own nL) {f : Fin 4} {i : Nat} {v : Int32} (lv' : List (Nat × Value)) (hd : decode cc pc = .ok (.istore_n f, 1)) (hi : (f : Nat) = i) (hn : i < nL) (hl : (i, Value.int v) :: lv.filter (fun q => !(q.1 == i) && !(q.1 + 1 == i && q.2.category == 2)) = lv') (kk : J x G ws k n lv' st (pc + 1)) : J x G ws k n lv (.int v :: st) pc :=
  fun H locs ls hP hD hS hL => lv_istore_n hC.1 hC.2.1 hd hi hL (by rw [hC.2.2.1]; exact hn) hl (fun ls' hL' => kk H locs ls' hP hD hS hL')
theorem J_istore (hC : JC x G R cc Ts own nL) {i : Nat} {v : Int32} (lv' : List (Nat × Value)) (hd : decode cc pc = .ok (.istore i, 2)) (hn : i < nL) (hl : (i, Value.int v) :: lv.filter (fun q => !(q.1 == i) && !(q.1 + 1 == i && q.2.category == 2)) = lv') (kk : J x G ws k n lv' st (pc + 2)) : J x G ws k n lv (.int v :: st) pc :=
  fun H locs ls hP hD hS hL => lv_istore hC.1 hC.2.1 hd hL (by rw [hC.2.2.1]; exact hn) hl (fun ls' hL' => kk H locs ls' hP hD hS hL')
theorem J_astore_n (hC : JC x G R cc Ts own nL) {f : Fin 4} {i a : Nat} (lv' : List (Nat × Value)) (hd : decode cc pc = .ok (.astore_n f, 1)) (hi : (f : Nat) = i) (hn : i < nL) (hl : (i, Value.ref a) :: lv.filter (fun q => !(q.1 == i) && !(q.1 + 1 == i && q.2.category == 2)) = lv') (kk : J x G ws k n lv' st (pc + 1)) : J x G ws k n lv (.ref a :: st) pc :=
  fun H locs ls hP hD hS hL => lv_astore_n hC.1 hC.2.1 hd hi hL (by rw [hC.2.2.1]; exact hn) hl (fun ls' hL' => kk H locs ls' hP hD hS hL')
theorem J_astore (hC : JC x G R cc Ts own nL) {i a : Nat} (lv' : List (Nat × Value)) (hd : decode cc pc = .ok (.astore i, 2)) (hn : i < nL) (hl : (i, Value.ref a) :: lv.filter (fun q => !(q.1 == i) && !(q.1 + 1 == i && q.2.category == 2)) = lv') (kk : J x G ws k n lv' st (pc + 2)) : J x G ws k n lv (.ref a :: st) pc :=
  fun H locs ls hP hD hS hL => lv_astore hC.1 hC.2.1 hd hL (by rw [hC.2.2.1]; exact hn) hl (fun ls' hL' => kk H locs ls' hP hD hS hL')
theorem J_dstore (hC : JC x G R cc Ts own nL) {i : Nat} {v : UInt64} (lv' : List (Nat × Value)) (hd : decode cc pc = .ok (.dstore i, 2)) (hn : i + 1 < nL) (hl : (i, Value.double v) :: lv.filter (fun q => !(q.1 == i) && (!(q.1 == i + 1) && !(q.1 + 1 == i && q.2.category == 2))) = lv') (kk : J x G ws k n lv' st (pc + 2)) : J x G ws k n lv (.double v :: st) pc :=
  fun H locs ls hP hD hS hL => lv_dstore hC.1 hC.2.1 hd hL (by rw [hC.2.2.1]; exact hn) hl (fun ls' hL' => kk H locs ls' hP hD hS hL')
theorem J_iinc (hC : JC x G R cc Ts own nL) {i : Nat} {d : Int} {v w : Int32} (lv' : List (Nat × Value)) (hd : decode cc pc = .ok (.iinc i d, 3)) (j : Nat) (hj : lv[j]? = some (i, .int v)) (hv : v + Int32.ofInt d = w) (hn : i < nL) (hl : (i, Value.int w) :: lv.filter (fun q => !(q.1 == i) && !(q.1 + 1 == i && q.2.category == 2)) = lv') (kk : J x G ws k n lv' st (pc + 3)) : J x G ws k n lv st pc :=
  fun H locs ls hP hD hS hL => lv_iinc hC.1 hC.2.1 hd hL hj hv (by rw [hC.2.2.1]; exact hn) hl (fun ls' hL' => kk H locs ls' hP hD hS hL')
theorem J_dup (hC : JC x G R cc Ts own nL) {v : Value} (hd : decode cc pc = .ok (.dup, 1)) (hv : v.category = 1) (kk : J x G ws k n lv (v :: v :: st) (pc + 1)) : J x G ws k n lv (v :: st) pc :=
  fun H locs ls hP hD hS hL => lv_dup hC.1 hC.2.1 hd hv (kk H locs ls hP hD hS hL)
theorem J_pop (hC : JC x G R cc Ts own nL) {v : Value} (hd : decode cc pc = .ok (.pop, 1)) (hv : v.category = 1) (kk : J x G ws k n lv st (pc + 1)) : J x G ws k n lv (v :: st) pc :=
  fun H locs ls hP hD hS hL => lv_pop hC.1 hC.2.1 hd hv (kk H locs ls hP hD hS hL)
theorem J_iadd (hC : JC x G R cc Ts own nL) {a b v : Int32} (hd : decode cc pc = .ok (.iadd, 1)) (hv : a + b = v) (kk : J x G ws k n lv (.int v :: st) (pc + 1)) : J x G ws k n lv (.int b :: .int a :: st) pc := by
  subst hv
  exact fun H locs ls hP hD hS hL => lv_iadd hC.1 hC.2.1 hd (kk H locs ls hP hD hS hL)
theorem J_isub (hC : JC x G R cc Ts own nL) {a b v : Int32} (hd : decode cc pc = .ok (.isub, 1)) (hv : a - b = v) (kk : J x G ws k n lv (.int v :: st) (pc + 1)) : J x G ws k n lv (.int b :: .int a :: st) pc := by
  subst hv
  exact fun H locs ls hP hD hS hL => lv_isub hC.1 hC.2.1 hd (kk H locs ls hP hD hS hL)
theorem J_imul (hC : JC x G R cc Ts own nL) {a b v : Int32} (hd : decode cc pc = .ok (.imul, 1)) (hv : a * b = v) (kk : J x G ws k n lv (.int v :: st) (pc + 1)) : J x G ws k n lv (.int b :: .int a :: st) pc := by
  subst hv
  exact fun H locs ls hP hD hS hL => lv_imul hC.1 hC.2.1 hd (kk H locs ls hP hD hS hL)
theorem J_idiv (hC : JC x G R cc Ts own nL) {a b v : Int32} (hd : decode cc pc = .ok (.idiv, 1)) (hne : ¬ b = 0) (hv : a / b = v) (kk : J x G ws k n lv (.int v :: st) (pc + 1)) : J x G ws k n lv (.int b :: .int a :: st) pc := by
  subst hv
  exact fun H locs ls hP hD hS hL => lv_idiv hC.1 hC.2.1 hd hne (kk H locs ls hP hD hS hL)
theorem J_irem (hC : JC x G R cc Ts own nL) {a b v : Int32} (hd : decode cc pc = .ok (.irem, 1)) (hne : ¬ b = 0) (hv : a - a / b * b = v) (kk : J x G ws k n lv (.int v :: st) (pc + 1)) : J x G ws k n lv (.int b :: .int a :: st) pc := by
  subst hv
  exact fun H locs ls hP hD hS hL => lv_irem hC.1 hC.2.1 hd hne (kk H locs ls hP hD hS hL)
theorem J_iand (hC : JC x G R cc Ts own nL) {a b v : Int32} (hd : decode cc pc = .ok (.iand, 1)) (hv : a &&& b = v) (kk : J x G ws k n lv (.int v :: st) (pc + 1)) : J x G ws k n lv (.int b :: .int a :: st) pc := by
  subst hv
  exact fun H locs ls hP hD hS hL => lv_iand hC.1 hC.2.1 hd (kk H locs ls hP hD hS hL)
theorem J_ior (hC : JC x G R cc Ts own nL) {a b v : Int32} (hd : decode cc pc = .ok (.ior, 1)) (hv : a ||| b = v) (kk : J x G ws k n lv (.int v :: st) (pc + 1)) : J x G ws k n lv (.int b :: .int a :: st) pc := by
  subst hv
  exact fun H locs ls hP hD hS hL => lv_ior hC.1 hC.2.1 hd (kk H locs ls hP hD hS hL)
theorem J_ishl (hC : JC x G R cc Ts own nL) {a b v : Int32} (hd : decode cc pc = .ok (.ishl, 1)) (hv : a <<< (b &&& 31) = v) (kk : J x G ws k n lv (.int v :: st) (pc + 1)) : J x G ws k n lv (.int b :: .int a :: st) pc := by
  subst hv
  exact fun H locs ls hP hD hS hL => lv_ishl hC.1 hC.2.1 hd (kk H locs ls hP hD hS hL)
theorem J_ishr (hC : JC x G R cc Ts own nL) {a b v : Int32} (hd : decode cc pc = .ok (.ishr, 1)) (hv : a >>> (b &&& 31) = v) (kk : J x G ws k n lv (.int v :: st) (pc + 1)) : J x G ws k n lv (.int b :: .int a :: st) pc := by
  subst hv
  exact fun H locs ls hP hD hS hL => lv_ishr hC.1 hC.2.1 hd (kk H locs ls hP hD hS hL)
theorem J_iushr (hC : JC x G R cc Ts own nL) {a b v : Int32} (hd : decode cc pc = .ok (.iushr, 1)) (hv : (a.toUInt32 >>> (b.toUInt32 &&& Int32.toUInt32 31)).toInt32 = v) (kk : J x G ws k n lv (.int v :: st) (pc + 1)) : J x G ws k n lv (.int b :: .int a :: st) pc :=
  fun H locs ls hP hD hS hL => lv_iushr hC.1 hC.2.1 hd hv (kk H locs ls hP hD hS hL)
theorem J_i2b (hC : JC x G R cc Ts own nL) {a v : Int32} (hd : decode cc pc = .ok (.i2b, 1)) (hv : a.toInt8.toInt32 = v) (kk : J x G ws k n lv (.int v :: st) (pc + 1)) : J x G ws k n lv (.int a :: st) pc :=
  fun H locs ls hP hD hS hL => lv_i2b hC.1 hC.2.1 hd hv (kk H locs ls hP hD hS hL)
theorem J_i2l (hC : JC x G R cc Ts own nL) {a : Int32} {v : Int64} (hd : decode cc pc = .ok (.i2l, 1)) (hv : a.toInt64 = v) (kk : J x G ws k n lv (.long v :: st) (pc + 1)) : J x G ws k n lv (.int a :: st) pc :=
  fun H locs ls hP hD hS hL => lv_i2l hC.1 hC.2.1 hd hv (kk H locs ls hP hD hS hL)
theorem J_lconst (hC : JC x G R cc Ts own nL) {c : Fin 2} {v : Int64} (hd : decode cc pc = .ok (.lconst c, 1)) (hv : Int64.ofNat (c : Nat) = v) (kk : J x G ws k n lv (.long v :: st) (pc + 1)) : J x G ws k n lv st pc :=
  fun H locs ls hP hD hS hL => lv_lconst hC.1 hC.2.1 hd hv (kk H locs ls hP hD hS hL)
theorem J_goto (hC : JC x G R cc Ts own nL) {off : Int} {tgt : Nat} (hd : decode cc pc = .ok (.goto off, 3)) (ht : (pc : Int) + off = (tgt : Int)) (kk : J x G ws k n lv st tgt) : J x G ws k n lv st pc :=
  fun H locs ls hP hD hS hL => lv_goto hC.1 hC.2.1 hd ht (kk H locs ls hP hD hS hL)
theorem J_if_eq (hC : JC x G R cc Ts own nL) {a : Int32} {off : Int} {tgt : Nat} (hd : decode cc pc = .ok (.ifCond .eq off, 3)) (ht : (pc : Int) + off = (tgt : Int)) (kt : a = 0 → J x G ws k n lv st tgt) (kf : ¬ a = 0 → J x G ws k n lv st (pc + 3)) : J x G ws k n lv (.int a :: st) pc :=
  fun H locs ls hP hD hS hL => lv_if_eq hC.1 hC.2.1 hd ht (fun c => kt c H locs ls hP hD hS hL) (fun c => kf c H locs ls hP hD hS hL)
theorem J_if_ne (hC : JC x G R cc Ts own nL) {a : Int32} {off : Int} {tgt : Nat} (hd : decode cc pc = .ok (.ifCond .ne off, 3)) (ht : (pc : Int) + off = (tgt : Int)) (kt : ¬ a = 0 → J x G ws k n lv st tgt) (kf : a = 0 → J x G ws k n lv st (pc + 3)) : J x G ws k n lv (.int a :: st) pc :=
  fun H locs ls hP hD hS hL => lv_if_ne hC.1 hC.2.1 hd ht (fun c => kt c H locs ls hP hD hS hL) (fun c => kf c H locs ls hP hD hS hL)
theorem J_if_lt (hC : JC x G R cc Ts own nL) {a : Int32} {off : Int} {tgt : Nat} (hd : decode cc pc = .ok (.ifCond .lt off, 3)) (ht : (pc : Int) + off = (tgt : Int)) (kt : a < 0 → J x G ws k n lv st tgt) (kf : ¬ a < 0 → J x G ws k n lv st (pc + 3)) : J x G ws k n lv (.int a :: st) pc :=
  fun H locs ls hP hD hS hL => lv_if_lt hC.1 hC.2.1 hd ht (fun c => kt c H locs ls hP hD hS hL) (fun c => kf c H locs ls hP hD hS hL)
theorem J_if_ge (hC : JC x G R cc Ts own nL) {a : Int32} {off : Int} {tgt : Nat} (hd : decode cc pc = .ok (.ifCond .ge off, 3)) (ht : (pc : Int) + off = (tgt : Int)) (kt : 0 ≤ a → J x G ws k n lv st tgt) (kf : ¬ 0 ≤ a → J x G ws k n lv st (pc + 3)) : J x G ws k n lv (.int a :: st) pc :=
  fun H locs ls hP hD hS hL => lv_if_ge hC.1 hC.2.1 hd ht (fun c => kt c H locs ls hP hD hS hL) (fun c => kf c H locs ls hP hD hS hL)
theorem J_if_gt (hC : JC x G R cc Ts own nL) {a : Int32} {off : Int} {tgt : Nat} (hd : decode cc pc = .ok (.ifCond .gt off, 3)) (ht : (pc : Int) + off = (tgt : Int)) (kt : 0 < a → J x G ws k n lv st tgt) (kf : ¬ 0 < a → J x G ws k n lv st (pc + 3)) : J x G ws k n lv (.int a :: st) pc :=
  fun H locs ls hP hD hS hL => lv_if_gt hC.1 hC.2.1 hd ht (fun c => kt c H locs ls hP hD hS hL) (fun c => kf c H locs ls hP hD hS hL)
theorem J_if_le (hC : JC x G R cc Ts own nL) {a : Int32} {off : Int} {tgt : Nat} (hd : decode cc pc = .ok (.ifCond .le off, 3)) (ht : (pc : Int) + off = (tgt : Int)) (kt : a ≤ 0 → J x G ws k n lv st tgt) (kf : ¬ a ≤ 0 → J x G ws k n lv st (pc + 3)) : J x G ws k n lv (.int a :: st) pc :=
  fun H locs ls hP hD hS hL => lv_if_le hC.1 hC.2.1 hd ht (fun c => kt c H locs ls hP hD hS hL) (fun c => kf c H locs ls hP hD hS hL)
theorem J_ic_eq (hC : JC x G R cc Ts own nL) {a b : Int32} {off : Int} {tgt : Nat} (hd : decode cc pc = .ok (.if_icmp .eq off, 3)) (ht : (pc : Int) + off = (tgt : Int)) (kt : a = b → J x G ws k n lv st tgt) (kf : ¬ a = b → J x G ws k n lv st (pc + 3)) : J x G ws k n lv (.int b :: .int a :: st) pc :=
  fun H locs ls hP hD hS hL => lv_icmp_eq hC.1 hC.2.1 hd ht (fun c => kt c H locs ls hP hD hS hL) (fun c => kf c H locs ls hP hD hS hL)
theorem J_ic_ne (hC : JC x G R cc Ts own nL) {a b : Int32} {off : Int} {tgt : Nat} (hd : decode cc pc = .ok (.if_icmp .ne off, 3)) (ht : (pc : Int) + off = (tgt : Int)) (kt : ¬ a = b → J x G ws k n lv st tgt) (kf : a = b → J x G ws k n lv st (pc + 3)) : J x G ws k n lv (.int b :: .int a :: st) pc :=
  fun H locs ls hP hD hS hL => lv_icmp_ne hC.1 hC.2.1 hd ht (fun c => kt c H locs ls hP hD hS hL) (fun c => kf c H locs ls hP hD hS hL)
theorem J_ic_lt (hC : JC x G R cc Ts own nL) {a b : Int32} {off : Int} {tgt : Nat} (hd : decode cc pc = .ok (.if_icmp .lt off, 3)) (ht : (pc : Int) + off = (tgt : Int)) (kt : a < b → J x G ws k n lv st tgt) (kf : ¬ a < b → J x G ws k n lv st (pc + 3)) : J x G ws k n lv (.int b :: .int a :: st) pc :=
  fun H locs ls hP hD hS hL => lv_icmp_lt hC.1 hC.2.1 hd ht (fun c => kt c H locs ls hP hD hS hL) (fun c => kf c H locs ls hP hD hS hL)
theorem J_ic_ge (hC : JC x G R cc Ts own nL) {a b : Int32} {off : Int} {tgt : Nat} (hd : decode cc pc = .ok (.if_icmp .ge off, 3)) (ht : (pc : Int) + off = (tgt : Int)) (kt : b ≤ a → J x G ws k n lv st tgt) (kf : ¬ b ≤ a → J x G ws k n lv st (pc + 3)) : J x G ws k n lv (.int b :: .int a :: st) pc :=
  fun H locs ls hP hD hS hL => lv_icmp_ge hC.1 hC.2.1 hd ht (fun c => kt c H locs ls hP hD hS hL) (fun c => kf c H locs ls hP hD hS hL)
theorem J_ic_gt (hC : JC x G R cc Ts own nL) {a b : Int32} {off : Int} {tgt : Nat} (hd : decode cc pc = .ok (.if_icmp .gt off, 3)) (ht : (pc : Int) + off = (tgt : Int)) (kt : b < a → J x G ws k n lv st tgt) (kf : ¬ b < a → J x G ws k n lv st (pc + 3)) : J x G ws k n lv (.int b :: .int a :: st) pc :=
  fun H locs ls hP hD hS hL => lv_icmp_gt hC.1 hC.2.1 hd ht (fun c => kt c H locs ls hP hD hS hL) (fun c => kf c H locs ls hP hD hS hL)
theorem J_ic_le (hC : JC x G R cc Ts own nL) {a b : Int32} {off : Int} {tgt : Nat} (hd : decode cc pc = .ok (.if_icmp .le off, 3)) (ht : (pc : Int) + off = (tgt : Int)) (kt : a ≤ b → J x G ws k n lv st tgt) (kf : ¬ a ≤ b → J x G ws k n lv st (pc + 3)) : J x G ws k n lv (.int b :: .int a :: st) pc :=
  fun H locs ls hP hD hS hL => lv_icmp_le hC.1 hC.2.1 hd ht (fun c => kt c H locs ls hP hD hS hL) (fun c => kf c H locs ls hP hD hS hL)
-- comparisons of known numbers
theorem nI_lt' {a b : Nat} (ha : a < 2 ^ 31) (hb : b < 2 ^ 31) : nI a < nI b ↔ a < b := nI_ltI ha hb
theorem J_ic_ltN (hC : JC x G R cc Ts own nL) {a b : Nat} {off : Int} {tgt : Nat} (hd : decode cc pc = .ok (.if_icmp .lt off, 3)) (ht : (pc : Int) + off = (tgt : Int)) (ha : a < 2 ^ 31) (hb : b < 2 ^ 31) (kt : a < b → J x G ws k n lv st tgt) (kf : b ≤ a → J x G ws k n lv st (pc + 3)) : J x G ws k n lv (.int (nI b) :: .int (nI a) :: st) pc :=
  J_ic_lt hC hd ht (fun c => kt ((nI_ltI ha hb).mp c)) (fun c => kf (Nat.le_of_not_lt fun h => c ((nI_ltI ha hb).mpr h)))
theorem J_ic_geN (hC : JC x G R cc Ts own nL) {a b : Nat} {off : Int} {tgt : Nat} (hd : decode cc pc = .ok (.if_icmp .ge off, 3)) (ht : (pc : Int) + off = (tgt : Int)) (ha : a < 2 ^ 31) (hb : b < 2 ^ 31) (kt : b ≤ a → J x G ws k n lv st tgt) (kf : a < b → J x G ws k n lv st (pc + 3)) : J x G ws k n lv (.int (nI b) :: .int (nI a) :: st) pc :=
  J_ic_ge hC hd ht (fun c => kt ((nI_leI hb ha).mp c)) (fun c => kf (Nat.lt_of_not_le fun h => c ((nI_leI hb ha).mpr h)))
theorem J_ic_gtN (hC : JC x G R cc Ts own nL) {a b : Nat} {off : Int} {tgt : Nat} (hd : decode cc pc = .ok (.if_icmp .gt off, 3)) (ht : (pc : Int) + off = (tgt : Int)) (ha : a < 2 ^ 31) (hb : b < 2 ^ 31) (kt : b < a → J x G ws k n lv st tgt) (kf : a ≤ b → J x G ws k n lv st (pc + 3)) : J x G ws k n lv (.int (nI b) :: .int (nI a) :: st) pc :=
  J_ic_gt hC hd ht (fun c => kt ((nI_ltI hb ha).mp c)) (fun c => kf (Nat.le_of_not_lt fun h => c ((nI_ltI hb ha).mpr h)))
theorem J_ic_leN (hC : JC x G R cc Ts own nL) {a b : Nat} {off : Int} {tgt : Nat} (hd : decode cc pc = .ok (.if_icmp .le off, 3)) (ht : (pc : Int) + off = (tgt : Int)) (ha : a < 2 ^ 31) (hb : b < 2 ^ 31) (kt : a ≤ b → J x G ws k n lv st tgt) (kf : b < a → J x G ws k n lv st (pc + 3)) : J x G ws k n lv (.int (nI b) :: .int (nI a) :: st) pc :=
  J_ic_le hC hd ht (fun c => kt ((nI_leI ha hb).mp c)) (fun c => kf (Nat.lt_of_not_le fun h => c ((nI_leI ha hb).mpr h)))
theorem J_ic_eqN (hC : JC x G R cc Ts own nL) {a b : Nat} {off : Int} {tgt : Nat} (hd : decode cc pc = .ok (.if_icmp .eq off, 3)) (ht : (pc : Int) + off = (tgt : Int)) (ha : a < 2 ^ 31) (hb : b < 2 ^ 31) (kt : a = b → J x G ws k n lv st tgt) (kf : ¬ a = b → J x G ws k n lv st (pc + 3)) : J x G ws k n lv (.int (nI b) :: .int (nI a) :: st) pc :=
  J_ic_eq hC hd ht (fun c => kt ((nI_eq ha hb).mp c)) (fun c => kf (fun h => c ((nI_eq ha hb).mpr h)))
theorem J_ic_neN (hC : JC x G R cc Ts own nL) {a b : Nat} {off : Int} {tgt : Nat} (hd : decode cc pc = .ok (.if_icmp .ne off, 3)) (ht : (pc : Int) + off = (tgt : Int)) (ha : a < 2 ^ 31) (hb : b < 2 ^ 31) (kt : ¬ a = b → J x G ws k n lv st tgt) (kf : a = b → J x G ws k n lv st (pc + 3)) : J x G ws k n lv (.int (nI b) :: .int (nI a) :: st) pc :=
  J_ic_ne hC hd ht (fun c => kt (fun h => c ((nI_eq ha hb).mpr h))) (fun c => kf ((nI_eq ha hb).mp c))
theorem J_if_eqN (hC : JC x G R cc Ts own nL) {a : Nat} {off : Int} {tgt : Nat} (hd : decode cc pc = .ok (.ifCond .eq off, 3)) (ht : (pc : Int) + off = (tgt : Int)) (ha : a < 2 ^ 31) (kt : a = 0 → J x G ws k n lv st tgt) (kf : 0 < a → J x G ws k n lv st (pc + 3)) : J x G ws k n lv (.int (nI a) :: st) pc :=
  J_if_eq hC hd ht (fun c => kt ((nI_eq ha (b := 0) (by omega)).mp c)) (fun c => kf (Nat.pos_of_ne_zero fun h => c ((nI_eq ha (b := 0) (by omega)).mpr h)))
theorem J_if_neN (hC : JC x G R cc Ts own nL) {a : Nat} {off : Int} {tgt : Nat} (hd : decode cc pc = .ok (.ifCond .ne off, 3)) (ht : (pc : Int) + off = (tgt : Int)) (ha : a < 2 ^ 31) (kt : 0 < a → J x G ws k n lv st tgt) (kf : a = 0 → J x G ws k n lv st (pc + 3)) : J x G ws k n lv (.int (nI a) :: st) pc :=
  J_if_ne hC hd ht (fun c => kt (Nat.pos_of_ne_zero fun h => c ((nI_eq ha (b := 0) (by omega)).mpr h))) (fun c => kf ((nI_eq ha (b := 0) (by omega)).mp c))
theorem J_if_leN (hC : JC x G R cc Ts own nL) {a : Nat} {off : Int} {tgt : Nat} (hd : decode cc pc = .ok (.ifCond .le off, 3)) (ht : (pc : Int) + off = (tgt : Int)) (ha : a < 2 ^ 31) (kt : a = 0 → J x G ws k n lv st tgt) (kf : 0 < a → J x G ws k n lv st (pc + 3)) : J x G ws k n lv (.int (nI a) :: st) pc :=
  J_if_le hC hd ht (fun c => kt (Nat.le_zero.mp ((nI_leI ha (b := 0) (by omega)).mp c))) (fun c => kf (Nat.pos_of_ne_zero fun h => c ((nI_leI ha (b := 0) (by omega)).mpr (Nat.le_of_eq h))))
theorem J_if_ltN (hC : JC x G R cc Ts own nL) {a : Nat} {off : Int} {tgt : Nat} (hd : decode cc pc = .ok (.ifCond .lt off, 3)) (ht : (pc : Int) + off = (tgt : Int)) (ha : a < 2 ^ 31) (kf : J x G ws k n lv st (pc + 3)) : J x G ws k n lv (.int (nI a) :: st) pc :=
  J_if_lt hC hd ht (fun c => absurd c (nI_pos ha)) (fun _ => kf)
theorem J_if_geN (hC : JC x G R cc Ts own nL) {a : Nat} {off : Int} {tgt : Nat} (hd : decode cc pc = .ok (.ifCond .ge off, 3)) (ht : (pc : Int) + off = (tgt : Int)) (ha : a < 2 ^ 31) (kt : J x G ws k n lv st tgt) : J x G ws k n lv (.int (nI a) :: st) pc :=
  J_if_ge hC hd ht (fun _ => kt) (fun c => absurd (nI_pos' ha) c)
theorem J_if_gtN (hC : JC x G R cc Ts own nL) {a : Nat} {off : Int} {tgt : Nat} (hd : decode cc pc = .ok (.ifCond .gt off, 3)) (ht : (pc : Int) + off = (tgt : Int)) (ha : a < 2 ^ 31) (kt : 0 < a → J x G ws k n lv st tgt) (kf : a = 0 → J x G ws k n lv st (pc + 3)) : J x G ws k n lv (.int (nI a) :: st) pc :=
  J_if_gt hC hd ht (fun c => kt ((nI_ltI (a := 0) (by omega) ha).mp c)) (fun c => kf (Nat.eq_zero_of_not_pos fun h => c ((nI_ltI (a := 0) (by omega) ha).mpr h)))
end JJ
section JM
variable {x : JX} {G : gT} {R : Room} {cc : ByteArray} {Ts : List Cond} {own : String} {nL : Nat} {ws : va_W} {k n : Nat} {lv : List (Nat × Value)} {st : List Value} {pc : Nat}
theorem J_eq {ws' : va_W} (h : ws = ws') (kk : J x G ws' k n lv st pc) : J x G ws k n lv st pc := h ▸ kk
theorem J_lv {lv' : List (Nat × Value)} (ks : List Nat) (h : lv_pick lv ks = lv') (kk : J x G ws k n lv' st pc) : J x G ws k n lv st pc :=
  fun H locs ls hP hD hS hL => kk H locs ls hP hD hS (lv_sub hL ks h)
theorem J_wid {k' n' : Nat} (hk : k ≤ k') (hn : n ≤ n') (kk : J x G ws k' n' lv st pc) : J x G ws k n lv st pc :=
  fun H locs ls hP hD hS hL => W.widen hk hn (kk H locs ls hP hD hS hL)
/-- the top of the stack, by an equation -/
theorem J_top {v w : Value} (h : v = w) (kk : J x G ws k n lv (w :: st) pc) : J x G ws k n lv (v :: st) pc := h ▸ kk
theorem J_topi {v w : Int32} (h : v = w) (kk : J x G ws k n lv (.int w :: st) pc) : J x G ws k n lv (.int v :: st) pc := h ▸ kk
/-- getfield -/
theorem J_get (hC : JC x G R cc Ts own nL) {C : String} {T : u_T} {N ci idx a : Nat} {fs : List Value} {v : Value} (hin : ∀ w ∈ u_ws C T N, w ∈ Ts) (hc : vwCl[ci]? = some (C, T, N)) (hd : decode cc pc = .ok (.getfield idx, 3)) (q kf : Nat) (hk : kf < N)
    (hlink : Cond.fieldLink own idx (T kf).1 (T kf).2.1 (T kf).2.2.1 ∈ Ts) (hq : ws[q]? = some (a, .inr (ci, fs))) (hv : fs[kf]? = some v) (kk : J x G ws k n lv (v :: st) (pc + 3)) : J x G ws k n lv (.ref a :: st) pc :=
  fun H locs ls hP hD hS hL => va_get hC.1 hC.2.1 hC.2.2.2.2.1 hin hC.2.2.2.1 hC.2.2.2.2.2.1 hP q hq hc kf hk (hC.2.2.2.2.1 _ hlink) (fun _ h => h) hv hd (kk H locs ls hP hD hS hL)
/-- putfield of an int (or of any value that fits) into a field that isn't final -/
theorem J_put (hC : JC x G R cc Ts own nL) {C : String} {T : u_T} {N ci idx a : Nat} {ty : Nat → FieldType} {fs : List Value} {v : Value} {ws' : va_W} (hin : ∀ w ∈ u_ws C T N, w ∈ Ts) (hc : vwCl[ci]? = some (C, T, N)) (hty : ∀ j, j < N → parseFieldDescriptor (T j).2.2.1 = some (ty j)) (hnm : ∀ a, a < N → ∀ b, b < N → a ≠ b → (T a).2.1 ≠ (T b).2.1) (hd : decode cc pc = .ok (.putfield idx, 3)) (q kf : Nat) (hk : kf < N)
    (hlink : Cond.fieldLink own idx (T kf).1 (T kf).2.1 (T kf).2.2.1 ∈ Ts) (hfin : (T kf).2.2.2 = false) (hq : ws[q]? = some (a, .inr (ci, fs))) (hl : kf < fs.length) (hn : narrow (ty kf) v = v) (hf : fits (ty kf) v = true) (hw : ws.set q (a, .inr (ci, fs.set kf v)) = ws') (kk : J x G ws' k n lv st (pc + 3)) : J x G ws k n lv (v :: .ref a :: st) pc := by
  subst hw
  exact fun H locs ls hP hD hS hL => va_put hC.1 hC.2.1 hC.2.2.2.2.1 hin ty hty hnm hC.2.2.2.1 hC.2.2.2.2.2.1 hP hD hS q hq hc kf hk (hC.2.2.2.2.1 _ hlink) (fun _ h => h) hfin (hty kf hk) hn hf hl hd (fun H1 locs1 hP1 hD1 hS1 => kk H1 locs1 ls hP1 hD1 hS1 hL)
/-- putfield of a final field, in its constructor -/
theorem J_putF (hC : JC x G R cc Ts own nL) {C : String} {T : u_T} {N ci idx a : Nat} {ty : Nat → FieldType} {fs : List Value} {v : Value} {ws' : va_W} (hin : ∀ w ∈ u_ws C T N, w ∈ Ts) (hc : vwCl[ci]? = some (C, T, N)) (hty : ∀ j, j < N → parseFieldDescriptor (T j).2.2.1 = some (ty j)) (hnm : ∀ a, a < N → ∀ b, b < N → a ≠ b → (T a).2.1 ≠ (T b).2.1) (hi : (jt x).name = "<init>") (hd : decode cc pc = .ok (.putfield idx, 3)) (q kf : Nat) (hk : kf < N)
    (hlink : Cond.fieldLink own idx (T kf).1 (T kf).2.1 (T kf).2.2.1 ∈ Ts) (hfin : (T kf).2.2.2 = true) (hdecl : (T kf).1 = own) (hq : ws[q]? = some (a, .inr (ci, fs))) (hl : kf < fs.length) (hn : narrow (ty kf) v = v) (hf : fits (ty kf) v = true) (hw : ws.set q (a, .inr (ci, fs.set kf v)) = ws') (kk : J x G ws' k n lv st (pc + 3)) : J x G ws k n lv (v :: .ref a :: st) pc := by
  subst hw
  exact fun H locs ls hP hD hS hL => va_putF hC.1 hC.2.1 hC.2.2.2.2.1 hin ty hty hnm hC.2.2.2.1 hC.2.2.2.2.2.1 hP hD hS q hq hc kf hk (hC.2.2.2.2.1 _ hlink) (fun _ h => h) hfin hi hdecl (hty kf hk) hn hf hl hd (fun H1 locs1 hP1 hD1 hS1 => kk H1 locs1 ls hP1 hD1 hS1 hL)
/-- loads from arrays: at a known place i -/
theorem J_iald (hC : JC x G R cc Ts own nL) {a m i : Nat} {f : Nat → Int32} {v : Int32} (hd : decode cc pc = .ok (.iaload, 1)) (q : Nat) (hq : ws[q]? = some (a, .inl (G.2 0, m, .inl f))) (hi : i < m) (hm : m < 2 ^ 31) (hv : f i = v) (kk : J x G ws k n lv (.int v :: st) (pc + 1)) : J x G ws k n lv (.int (nI i) :: .ref a :: st) pc := by
  subst hv
  intro H locs ls hP hD hS hL
  refine va_iald hC.1 hC.2.1 hC.2.2.2.2.2.1 hP q 0 hq rfl (vp_in_nI hi hm) hd ?_
  rw [nI_clamp (by omega)]
  exact kk H locs ls hP hD hS hL
theorem J_bald (hC : JC x G R cc Ts own nL) {a m i : Nat} {f : Nat → Int32} {v : Int32} (hd : decode cc pc = .ok (.baload, 1)) (q : Nat) (hq : ws[q]? = some (a, .inl (G.2 1, m, .inl f))) (hi : i < m) (hm : m < 2 ^ 31) (hv : f i = v) (kk : J x G ws k n lv (.int v :: st) (pc + 1)) : J x G ws k n lv (.int (nI i) :: .ref a :: st) pc := by
  subst hv
  intro H locs ls hP hD hS hL
  refine va_bald hC.1 hC.2.1 hC.2.2.2.2.2.1 hP q 1 hq rfl (vp_in_nI hi hm) hd ?_
  rw [nI_clamp (by omega)]
  exact kk H locs ls hP hD hS hL
theorem J_zald (hC : JC x G R cc Ts own nL) {a m i : Nat} {f : Nat → Int32} {v : Int32} (hd : decode cc pc = .ok (.baload, 1)) (q : Nat) (hq : ws[q]? = some (a, .inl (G.2 2, m, .inl f))) (hi : i < m) (hm : m < 2 ^ 31) (hv : f i = v) (kk : J x G ws k n lv (.int v :: st) (pc + 1)) : J x G ws k n lv (.int (nI i) :: .ref a :: st) pc := by
  subst hv
  intro H locs ls hP hD hS hL
  refine va_zald hC.1 hC.2.1 hC.2.2.2.2.2.1 hP q 2 hq rfl (vp_in_nI hi hm) hd ?_
  rw [nI_clamp (by omega)]
  exact kk H locs ls hP hD hS hL
theorem J_iast (hC : JC x G R cc Ts own nL) {a m i : Nat} {f : Nat → Int32} {v : Int32} {ws' : va_W} (hd : decode cc pc = .ok (.iastore, 1)) (q : Nat) (hq : ws[q]? = some (a, .inl (G.2 0, m, .inl f))) (hi : i < m) (hm : m < 2 ^ 31) (hw : ws.set q (a, .inl (G.2 0, m, .inl (upd f i v))) = ws') (kk : J x G ws' k n lv st (pc + 1)) : J x G ws k n lv (.int v :: .int (nI i) :: .ref a :: st) pc := by
  subst hw
  intro H locs ls hP hD hS hL
  refine va_iast hC.1 hC.2.1 hC.2.2.2.2.2.1 hP hD hS q 0 hq rfl (vp_in_nI hi hm) hd (fun H1 locs1 hP1 hD1 hS1 => ?_)
  rw [nI_clamp (by omega)] at hP1 hD1
  exact kk H1 locs1 ls hP1 hD1 hS1 hL
theorem J_bast (hC : JC x G R cc Ts own nL) {a m i : Nat} {f : Nat → Int32} {v : Int32} {ws' : va_W} (hd : decode cc pc = .ok (.bastore, 1)) (q : Nat) (hq : ws[q]? = some (a, .inl (G.2 1, m, .inl f))) (hi : i < m) (hm : m < 2 ^ 31) (hw : ws.set q (a, .inl (G.2 1, m, .inl (upd f i (vp_nar .byte v)))) = ws') (kk : J x G ws' k n lv st (pc + 1)) : J x G ws k n lv (.int v :: .int (nI i) :: .ref a :: st) pc := by
  subst hw
  intro H locs ls hP hD hS hL
  refine va_bast hC.1 hC.2.1 hC.2.2.2.2.2.1 hP hD hS q 1 hq rfl (vp_in_nI hi hm) hd (fun H1 locs1 hP1 hD1 hS1 => ?_)
  rw [nI_clamp (by omega)] at hP1 hD1
  exact kk H1 locs1 ls hP1 hD1 hS1 hL
end JM
-- ENDS
def JRi {S : Type} (x : JX) (G : gT) (ty : FieldType) (post : Int32 → S → Prop) (W1 : S → va_W) (mc ms : Nat) : Prop :=
  (jt x).sig.returnType = some ty ∧ (jt x).locks = false ∧ jQ x = MQ (jb x) (va_Qi post (fun u => gB G (W1 u) (jA x)) (jA x) ) (ja x) (js x) mc ms (jA x) ∧ jH x = (js x).heap
def JRv {S : Type} (x : JX) (G : gT) (post : S → Prop) (W1 : S → va_W) (mc ms : Nat) : Prop :=
  (jt x).sig.returnType = none ∧ (jt x).locks = false ∧ jQ x = MQ (jb x) (va_Qv post (fun u => gB G (W1 u) (jA x)) (jA x)) (ja x) (js x) mc ms (jA x) ∧ jH x = (js x).heap
theorem J_iret {S : Type} {x : JX} {G : gT} {R : Room} {cc : ByteArray} {Ts : List Cond} {own : String} {nL : Nat} {ws : va_W} {k n mc ms : Nat} {lv : List (Nat × Value)} {pc : Nat} {ty : FieldType} {post : Int32 → S → Prop} {W1 : S → va_W} {v : Int32} (hC : JC x G R cc Ts own nL) (hR : JRi x G ty post W1 mc ms)
    (hd : decode cc pc = .ok (.ireturn, 1)) (hn : narrow ty (.int v) = .int v) (u : S) (hp : post v u) (hw : ws = W1 u) (hk : k ≤ mc) (hs : n ≤ ms) : J x G ws k n lv [.int v] pc := by
  subst hw
  intro H locs ls hP hD hS hL
  obtain ⟨hr, hlk, hQ, hH⟩ := hR
  rw [hQ]
  rw [hH] at hS
  refine W.widen hk hs ?_
  exact W.zret hC.1 hC.2.1 hr hn (fun t ht hW => ⟨⟨v, u, rfl, hp, by rw [ht]; exact hP, va_K.moved hW.alike hC.2.2.2.2.2.1, hD⟩, hS.F ht⟩) hS.2.2 hd hlk
theorem J_vret {S : Type} {x : JX} {G : gT} {R : Room} {cc : ByteArray} {Ts : List Cond} {own : String} {nL : Nat} {ws : va_W} {k n mc ms : Nat} {lv : List (Nat × Value)} {pc : Nat} {post : S → Prop} {W1 : S → va_W} (hC : JC x G R cc Ts own nL) (hR : JRv x G post W1 mc ms)
    (hd : decode cc pc = .ok (.return_, 1)) (u : S) (hp : post u) (hw : ws = W1 u) (hk : k ≤ mc) (hs : n ≤ ms) : J x G ws k n lv [] pc := by
  subst hw
  intro H locs ls hP hD hS hL
  obtain ⟨hr, hlk, hQ, hH⟩ := hR
  rw [hQ]
  rw [hH] at hS
  refine W.widen hk hs ?_
  exact W.vret hC.1 hC.2.1 hr (fun t ht hW => ⟨⟨u, rfl, hp, by rw [ht]; exact hP, va_K.moved hW.alike hC.2.2.2.2.2.1, hD⟩, hS.F ht⟩) hS.2.2 hd hlk
-- ENTRY
/-- a method that answers an int (or boolean, char, byte): its contract out of its walk -/
theorem jm_i {S : Type} {l : Launch} {y : MethodName} {rm : Room} {cc : ByteArray} {maxL : Nat} {ty : FieldType} {av : List Value} {G : gT} {W0 : va_W} {W1 : S → va_W} {post : Int32 → S → Prop} {mc ms : Nat} (hy : plainName y.cls = true) (hn : (lg_sl av).length ≤ maxL)
    (body : ∀ x : JX, jl x = l → JC x G rm cc (Cond.code y cc maxL (some ty) :: GW) y.cls maxL → JRi x G ty post W1 mc ms → (jt x).name = y.name → J x G W0 0 0 (lv_args 0 av) [] 0) :
    ∀ sz : Nat, Met l y (Cond.code y cc maxL (some ty) :: GW) rm (va_Pc av (gP G W0 sz)) (va_Qi post (fun u => gB G (W1 u) (va_A W0 sz)) (va_A W0 sz)) mc ms (va_A W0 sz) := by
  intro sz
  refine Met.ofW (cc := cc) (maxL := maxL) (ret := some ty) hy rfl ?_
  intro p e s m args below meth c s₁ B hml hv
  obtain ⟨rfl, hsz, hP, hK, hD0⟩ := hv
  have hts := atoms_spec (ws := Cond.code y cc maxL (some ty) :: GW) B.pre
  have hown : s.vm.findClass y.cls = some m.cls := findClass_of_methodNamed B.named
  subst hsz
  have hD := hD0.self (sz := s.heap.size)
  have hA : ∀ q : Nat, s.heap.size ≤ q → va_A W0 s.heap.size q := fun q h => Or.inr h
  have hl := lv_entry av (n := maxL) hn
  rw [lg_entry_eq]
  exact body (p, l, e, (headSpec (Cond.code y cc maxL (some ty) :: GW) rm).room, s, m, av.toArray, below, meth, c, va_A W0 s.heap.size, s.heap, MQ below (va_Qi post (fun u => gB G (W1 u) (va_A W0 s.heap.size)) (va_A W0 s.heap.size)) av.toArray s mc ms (va_A W0 s.heap.size)) rfl
    ⟨B.exec, B.bytes, hml, hown, hts, hK, hA, rfl⟩ ⟨B.returns, B.notSynchronized, rfl, rfl⟩ (name_of_methodNamed B.named B.method).1 s.heap [] _ hP hD va_S.rf (hml ▸ hl)
theorem jm_v {S : Type} {l : Launch} {y : MethodName} {rm : Room} {cc : ByteArray} {maxL : Nat} {av : List Value} {G : gT} {W0 : va_W} {W1 : S → va_W} {post : S → Prop} {mc ms : Nat} (hy : plainName y.cls = true) (hn : (lg_sl av).length ≤ maxL)
    (body : ∀ x : JX, jl x = l → JC x G rm cc (Cond.code y cc maxL none :: GW) y.cls maxL → JRv x G post W1 mc ms → (jt x).name = y.name → J x G W0 0 0 (lv_args 0 av) [] 0) :
    ∀ sz : Nat, Met l y (Cond.code y cc maxL none :: GW) rm (va_Pc av (gP G W0 sz)) (va_Qv post (fun u => gB G (W1 u) (va_A W0 sz)) (va_A W0 sz)) mc ms (va_A W0 sz) := by
  intro sz
  refine Met.ofW (cc := cc) (maxL := maxL) (ret := none) hy rfl ?_
  intro p e s m args below meth c s₁ B hml hv
  obtain ⟨rfl, hsz, hP, hK, hD0⟩ := hv
  have hts := atoms_spec (ws := Cond.code y cc maxL none :: GW) B.pre
  have hown : s.vm.findClass y.cls = some m.cls := findClass_of_methodNamed B.named
  subst hsz
  have hD := hD0.self (sz := s.heap.size)
  have hA : ∀ q : Nat, s.heap.size ≤ q → va_A W0 s.heap.size q := fun q h => Or.inr h
  have hl := lv_entry av (n := maxL) hn
  rw [lg_entry_eq]
  exact body (p, l, e, (headSpec (Cond.code y cc maxL none :: GW) rm).room, s, m, av.toArray, below, meth, c, va_A W0 s.heap.size, s.heap, MQ below (va_Qv post (fun u => gB G (W1 u) (va_A W0 s.heap.size)) (va_A W0 s.heap.size)) av.toArray s mc ms (va_A W0 s.heap.size)) rfl
    ⟨B.exec, B.bytes, hml, hown, hts, hK, hA, rfl⟩ ⟨B.returns, B.notSynchronized, rfl, rfl⟩ (name_of_methodNamed B.named B.method).1 s.heap [] _ hP hD va_S.rf (hml ▸ hl)
-- CALLS
/-- the words of a callee by invokevirtual, out of the caller's -/
theorem gwV {w0 : Cond} {own C : String} {idx maxL : Nat} {y : MethodName} {cc : ByteArray} {ret : Option FieldType} (h1 : Cond.methodLink own idx y ∈ GW) (h2 : Cond.instanceMethod y ∈ GW) (h3 : Cond.selects C y y ∈ GW) (h4 : Cond.initialized C ∈ GW) (h5 : Cond.code y cc maxL ret ∈ GW) : GoodIn (w0 :: GW) (wsV own idx C y (Cond.code y cc maxL ret :: GW)) := by
  have K : ∀ w ∈ wsV own idx C y (Cond.code y cc maxL ret :: GW), w ∈ GW := by
    intro w hw
    simp only [wsV, List.mem_append, List.mem_cons, List.not_mem_nil, or_false] at hw
    rcases hw with (rfl | rfl | rfl | rfl) | rfl | hw
    · exact h1
    · exact h2
    · exact h3
    · exact h4
    · exact h5
    · exact hw
  exact fun w hw => ⟨List.mem_cons_of_mem _ (K w hw), gw_good w (K w hw)⟩
theorem gwS {w0 : Cond} {own : String} {idx maxL : Nat} {y : MethodName} {cc : ByteArray} {ret : Option FieldType} (h1 : Cond.methodLink own idx y ∈ GW) (h2 : Cond.static y ∈ GW) (h4 : Cond.initialized own ∈ GW) (h5 : Cond.code y cc maxL ret ∈ GW) : GoodIn (w0 :: GW) (wsS own idx y (Cond.code y cc maxL ret :: GW)) := by
  have K : ∀ w ∈ wsS own idx y (Cond.code y cc maxL ret :: GW), w ∈ GW := by
    intro w hw
    simp only [wsS, List.mem_append, List.mem_cons, List.not_mem_nil, or_false] at hw
    rcases hw with (rfl | rfl | rfl) | rfl | hw
    · exact h1
    · exact h2
    · exact h4
    · exact h5
    · exact hw
  exact fun w hw => ⟨List.mem_cons_of_mem _ (K w hw), gw_good w (K w hw)⟩

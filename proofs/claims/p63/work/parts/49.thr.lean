/-- words of the exceptions' classes that are not good ones; they are kept by every run -/
def TWL : List Cond := [.declares (Bundle.init0 "java/lang/RuntimeException"), .declares (Bundle.init0 "java/lang/Exception"), .declares (Bundle.init0 Bundle.tN), .castable "java/lang/IllegalStateException" "java/lang/IllegalStateException", .castable "java/lang/IllegalArgumentException" "java/lang/IllegalArgumentException", .castable "java/lang/IndexOutOfBoundsException" "java/lang/IndexOutOfBoundsException", .castable "java/util/NoSuchElementException" "java/util/NoSuchElementException"]
def xT (U : State) : Prop := ∀ w ∈ TWL, va_Nw w U
theorem twl_kind : ∀ w ∈ TWL, (∃ y, w = .declares y) ∨ ∃ c t, w = .castable c t := by
  intro w h
  simp only [TWL, List.mem_cons, List.not_mem_nil, or_false] at h
  rcases h with rfl | rfl | rfl | rfl | rfl | rfl | rfl
  · exact Or.inl ⟨_, rfl⟩
  · exact Or.inl ⟨_, rfl⟩
  · exact Or.inl ⟨_, rfl⟩
  · exact Or.inr ⟨_, _, rfl⟩
  · exact Or.inr ⟨_, _, rfl⟩
  · exact Or.inr ⟨_, _, rfl⟩
  · exact Or.inr ⟨_, _, rfl⟩
theorem twl_tab : ∀ w ∈ TWL, w.onTables = true := by
  intro w h
  rcases twl_kind w h with ⟨y, rfl⟩ | ⟨c, t, rfl⟩ <;> rfl
theorem xT.warm {s U : State} (h : xT s) (hW : s.WarmedH U.vm) : xT U := fun w hw => by
  rcases twl_kind w hw with ⟨y, rfl⟩ | ⟨c, t, rfl⟩
  · exact va_Nw.warmD hW (h _ hw)
  · exact va_Nw.warmC hW (h _ hw)
theorem xT.same {s U : State} (h : xT s) (hv : s.vm = U.vm) : xT U := fun w hw => va_Nw.same (twl_tab w hw) hv (h w hw)
/-- what a method that may throw takes for granted -/
def gX (G : gT) (ws : va_W) (sz : Nat) (U : State) : Prop := gP G ws sz U ∧ xT U
theorem gX_blind (G : gT) (av : List Value) (ws : va_W) (sz : Nat) : FrameBlind (va_Pc av (gX G ws sz)) := fun a U g mk h => by
  have h1 := gP_blind G av ws sz a U g mk ⟨h.1, h.2.1⟩
  exact ⟨h1.1, h1.2, h.2.2.same rfl⟩
/-- what a throw leaves: the class's name and the world -/
abbrev xB {SX : Type} (G : gT) (EX : SX → String) (WX : SX → va_W) (A : Nat → Prop) : String → SX → State → Prop := fun E u t => E = EX u ∧ gB G (WX u) A t
def JT {SX : Type} (x : JX) (G : gT) (Qc : Array Value → State → Outcome → State → Prop) (px : SX → Prop) (EX : SX → String) (WX : SX → va_W) (mc ms : Nat) : Prop :=
  (jt x).locks = false ∧ (∀ z ∈ (jc x).exceptionTable.toList, False) ∧ (jl x).stackTraces = false ∧ xT (js x) ∧ jQ x = vx_MQ (jb x) Qc (vx_X px (xB G EX WX (jA x)) (jA x)) (ja x) (js x) mc ms (jA x)
abbrev JTi {S SX : Type} (x : JX) (G : gT) (ty : FieldType) (post : Int32 → S → Prop) (W1 : S → va_W) (px : SX → Prop) (EX : SX → String) (WX : SX → va_W) (mc ms : Nat) : Prop :=
  (jt x).sig.returnType = some ty ∧ JT x G (va_Qi post (fun u => gB G (W1 u) (jA x)) (jA x)) px EX WX mc ms
abbrev JTv {S SX : Type} (x : JX) (G : gT) (post : S → Prop) (W1 : S → va_W) (px : SX → Prop) (EX : SX → String) (WX : SX → va_W) (mc ms : Nat) : Prop :=
  (jt x).sig.returnType = none ∧ JT x G (va_Qv post (fun u => gB G (W1 u) (jA x)) (jA x)) px EX WX mc ms
section JTS
variable {S SX : Type} {x : JX} {G : gT} {R : Room} {cc : ByteArray} {w0 : Cond} {own : String} {nL : Nat} {ws : va_W} {k n mc ms : Nat} {lv : List (Nat × Value)} {rest : List Value} {pc : Nat} {ty : FieldType} {W1 : S → va_W} {px : SX → Prop} {EX : SX → String} {WX : SX → va_W}
theorem J_iretT {post : Int32 → S → Prop} {v : Int32} (hC : JC x G R cc w0 own nL) (hR : JTi x G ty post W1 px EX WX mc ms)
    (hd : decode cc pc = .ok (.ireturn, 1)) (hn : narrow ty (.int v) = .int v) (u : S) (hp : post v u) (hw : ws = W1 u) (hk : k ≤ mc) (hs : n ≤ ms) : J x G ws k n lv [.int v] pc := by
  subst hw
  intro H locs ls hP hD hS hL
  obtain ⟨hr, hlk, -, -, -, hQ⟩ := hR
  rw [hQ]
  rw [hC.2.2.2.2.2.2.2.2.1] at hS
  refine vx_ret (W.widen hk hs ?_)
  exact W.zret hC.1 hC.2.1 hr hn (fun t ht hW => ⟨⟨v, u, rfl, hp, by rw [ht]; exact hP, va_K.moved hW.alike hC.2.2.2.2.2.1, hD⟩, hS.F ht⟩) hS.2.2 hd hlk
theorem J_vretT {post : S → Prop} (hC : JC x G R cc w0 own nL) (hR : JTv x G post W1 px EX WX mc ms)
    (hd : decode cc pc = .ok (.return_, 1)) (u : S) (hp : post u) (hw : ws = W1 u) (hk : k ≤ mc) (hs : n ≤ ms) : J x G ws k n lv [] pc := by
  subst hw
  intro H locs ls hP hD hS hL
  obtain ⟨hr, hlk, -, -, -, hQ⟩ := hR
  rw [hQ]
  rw [hC.2.2.2.2.2.2.2.2.1] at hS
  refine vx_ret (W.widen hk hs ?_)
  exact W.vret hC.1 hC.2.1 hr (fun t ht hW => ⟨⟨u, rfl, hp, by rw [ht]; exact hP, va_K.moved hW.alike hC.2.2.2.2.2.1, hD⟩, hS.F ht⟩) hS.2.2 hd hlk
/-- throw new cls(); -/
theorem J_throw0 {Qc : Array Value → State → Outcome → State → Prop} (hC : JC x G R cc w0 own nL) (hT : JT x G Qc px EX WX mc ms) {cls : String} {names : List String} {ik ic : Nat} (hcls : Bundle.fit cls = true) (hnames : ∀ n ∈ names, Bundle.fit n = true)
    (hk : Cond.classLink own ik cls ∈ GW) (hini : Cond.initialized cls ∈ GW) (h1 : ∀ w ∈ (vx_at0 own ic cls names).filter goodWord, w ∈ lw_tbl) (h2 : ∀ w ∈ (vx_at0 own ic cls names).filter (fun w => !goodWord w), w ∈ TWL) (hgood : ∀ w ∈ Cond.classLink own ik cls :: Cond.initialized cls :: vx_at0 own ic cls names, vx_ot w = true)
    (d0 : decode cc pc = .ok (.new ik, 3)) (d3 : decode cc (pc + 3) = .ok (.dup, 1)) (d4 : decode cc (pc + 4) = .ok (.invokespecial ic, 3)) (d7 : decode cc (pc + 7) = .ok (.athrow, 1))
    (hRf : names.length + 3 < R.frames) (hRl : (rest.map fun v => v.category).sum + (13 * (names.length + 1) + 42) ≤ R.locals) (hRc : k + 1 ≤ R.cells) (hRs : n + 6 ≤ R.slots)
    (u : SX) (hp : px u) (hE : EX u = cls) (hw : ws = WX u) (hc : k + 1 ≤ mc) (hs : n + 6 ≤ ms) : J x G ws k n lv rest pc := by
  subst hw
  intro H locs ls hP hD hS hL
  obtain ⟨hlk, htab, hst, hxT, hQ⟩ := hT
  rw [hQ]
  obtain ⟨c1, c2, c3, c4, c5, c6, c7, c8, c9, c10⟩ := hC
  have hS' := hS
  rw [c9] at hS'
  refine vx_throw0 c1 c2 hst c4 hcls hnames (c5 _ (List.mem_cons_of_mem _ hk)) (c5 _ (List.mem_cons_of_mem _ hini)) (vx_hat (fun w h => c5 _ (List.mem_cons_of_mem _ (gw_mem (h1 w h) (List.mem_filter.mp h).2))) h2 (fun w h => (hxT w h).use (twl_tab w h))) hgood c10.2.2.1 c10.2.2.2.1 hS' hL.1 d0 d3 d4 d7 (fun z hz => (htab z hz).elim) (by rw [c8]; exact hRf) (by rw [c8]; exact hRl) (by rw [c8]; exact hRc) (by rw [c8]; exact hRs) hlk (fun t ht hz hq => ?_) hS'.2.2 hc hs
  exact ⟨u, hp, ⟨hE.symm, hP.kept (fun j q hj => hq _ (vx_lt hP hj)), va_K.moved ht c6, hD⟩, ⟨Nat.le_trans hS'.1 hz, fun q h1 h2 => (hq q (Nat.lt_of_lt_of_le h1 hS'.1)).trans (hS'.2.1 q h1 h2)⟩⟩
end JTS
/-- contracts of methods that return or throw -/
abbrev TI {S SX : Type} (l : Launch) (y : MethodName) (cc : ByteArray) (maxL : Nat) (ret : Option FieldType) (rm : Room) (av : List Value) (G : gT) (W0 : va_W) (post : Int32 → S → Prop) (W1 : S → va_W) (px : SX → Prop) (EX : SX → String) (WX : SX → va_W) : Prop := ∀ sz : Nat, vx_Met l y (Cond.code y cc maxL ret :: GW) rm (va_Pc av (gX G W0 sz)) (va_Qi post (fun u => gB G (W1 u) (va_A W0 sz)) (va_A W0 sz)) (vx_X px (xB G EX WX (va_A W0 sz)) (va_A W0 sz)) rm.cells rm.slots (va_A W0 sz)
abbrev TV {S SX : Type} (l : Launch) (y : MethodName) (cc : ByteArray) (maxL : Nat) (rm : Room) (av : List Value) (G : gT) (W0 : va_W) (post : S → Prop) (W1 : S → va_W) (px : SX → Prop) (EX : SX → String) (WX : SX → va_W) : Prop := ∀ sz : Nat, vx_Met l y (Cond.code y cc maxL none :: GW) rm (va_Pc av (gX G W0 sz)) (va_Qv post (fun u => gB G (W1 u) (va_A W0 sz)) (va_A W0 sz)) (vx_X px (xB G EX WX (va_A W0 sz)) (va_A W0 sz)) rm.cells rm.slots (va_A W0 sz)
theorem jt_i {S SX : Type} {l : Launch} {y : MethodName} {rm : Room} {cc : ByteArray} {maxL : Nat} {ty : FieldType} {av : List Value} {G : gT} {W0 : va_W} {W1 : S → va_W} {post : Int32 → S → Prop} {px : SX → Prop} {EX : SX → String} {WX : SX → va_W} {own : String} (hst : l.stackTraces = false) (hy : plainName y.cls = true) (ho : y.cls = own) (hn : (lg_sl av).length ≤ maxL)
    (body : ∀ x : JX, jl x = l → JC x G rm cc (Cond.code y cc maxL (some ty)) own maxL → JTi x G ty post W1 px EX WX rm.cells rm.slots → (jt x).name = y.name → J x G W0 0 0 (lv_args 0 av) [] 0) :
    TI l y cc maxL (some ty) rm av G W0 post W1 px EX WX := by
  intro sz
  refine vx_ofW (cc := cc) (maxL := maxL) (ret := some ty) hy rfl ?_
  intro p e s m args below meth c s₁ B hml htab hv
  subst ho
  obtain ⟨rfl, ⟨hsz, hP, hK, hD0, hE⟩, hxT⟩ := hv
  have hts := atoms_spec (ws := Cond.code y cc maxL (some ty) :: GW) B.pre
  have hown : s.vm.findClass y.cls = some m.cls := findClass_of_methodNamed B.named
  subst hsz
  have hD := hD0.self (sz := s.heap.size)
  have hA : ∀ q : Nat, s.heap.size ≤ q → va_A W0 s.heap.size q := fun q h => Or.inr h
  have hl := lv_entry av (n := maxL) hn
  rw [lg_entry_eq]
  exact body (p, l, e, (headSpec (Cond.code y cc maxL (some ty) :: GW) rm).room, s, m, av.toArray, below, meth, c, va_A W0 s.heap.size, s.heap, vx_MQ below (va_Qi post (fun u => gB G (W1 u) (va_A W0 s.heap.size)) (va_A W0 s.heap.size)) (vx_X px (xB G EX WX (va_A W0 s.heap.size)) (va_A W0 s.heap.size)) av.toArray s rm.cells rm.slots (va_A W0 s.heap.size)) rfl
    ⟨B.exec, B.bytes, hml, hown, hts, hK, hA, rfl, rfl, hE⟩ ⟨B.returns, B.notSynchronized, htab, hst, hxT, rfl⟩ (name_of_methodNamed B.named B.method).1 s.heap [] _ hP hD va_S.rf (hml ▸ hl)
theorem jt_v {S SX : Type} {l : Launch} {y : MethodName} {rm : Room} {cc : ByteArray} {maxL : Nat} {av : List Value} {G : gT} {W0 : va_W} {W1 : S → va_W} {post : S → Prop} {px : SX → Prop} {EX : SX → String} {WX : SX → va_W} {own : String} (hst : l.stackTraces = false) (hy : plainName y.cls = true) (ho : y.cls = own) (hn : (lg_sl av).length ≤ maxL)
    (body : ∀ x : JX, jl x = l → JC x G rm cc (Cond.code y cc maxL none) own maxL → JTv x G post W1 px EX WX rm.cells rm.slots → (jt x).name = y.name → J x G W0 0 0 (lv_args 0 av) [] 0) :
    TV l y cc maxL rm av G W0 post W1 px EX WX := by
  intro sz
  refine vx_ofW (cc := cc) (maxL := maxL) (ret := none) hy rfl ?_
  intro p e s m args below meth c s₁ B hml htab hv
  subst ho
  obtain ⟨rfl, ⟨hsz, hP, hK, hD0, hE⟩, hxT⟩ := hv
  have hts := atoms_spec (ws := Cond.code y cc maxL none :: GW) B.pre
  have hown : s.vm.findClass y.cls = some m.cls := findClass_of_methodNamed B.named
  subst hsz
  have hD := hD0.self (sz := s.heap.size)
  have hA : ∀ q : Nat, s.heap.size ≤ q → va_A W0 s.heap.size q := fun q h => Or.inr h
  have hl := lv_entry av (n := maxL) hn
  rw [lg_entry_eq]
  exact body (p, l, e, (headSpec (Cond.code y cc maxL none :: GW) rm).room, s, m, av.toArray, below, meth, c, va_A W0 s.heap.size, s.heap, vx_MQ below (va_Qv post (fun u => gB G (W1 u) (va_A W0 s.heap.size)) (va_A W0 s.heap.size)) (vx_X px (xB G EX WX (va_A W0 s.heap.size)) (va_A W0 s.heap.size)) av.toArray s rm.cells rm.slots (va_A W0 s.heap.size)) rfl
    ⟨B.exec, B.bytes, hml, hown, hts, hK, hA, rfl, rfl, hE⟩ ⟨B.returns, B.notSynchronized, htab, hst, hxT, rfl⟩ (name_of_methodNamed B.named B.method).1 s.heap [] _ hP hD va_S.rf (hml ▸ hl)


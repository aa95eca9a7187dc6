section JLAW
variable {x : JX} {G : gT} {R : Room} {cc : ByteArray} {w0 : Cond} {own : String} {nL : Nat} {ws : va_W} {k n : Nat} {lv : List (Nat × Value)} {st rest : List Value} {pc : Nat}
theorem J_tabIn (hC : JC x G R cc w0 own nL) {dflt lo hi : Int} {offs : Array Int} {len : Nat} {v : Int32} {off : Int} {tgt : Nat} (hd : decode cc pc = .ok (.tableswitch dflt lo hi offs, len)) (h1 : ¬ v.toInt < lo) (h2 : ¬ hi < v.toInt) (ho : offs[(v.toInt - lo).toNat]? = some off) (ht : (pc : Int) + off = (tgt : Int)) (kk : J x G ws k n lv st tgt) : J x G ws k n lv (.int v :: st) pc := fun H locs ls hP hD hS hL => lv_tableIn hC.1 hC.2.1 hd h1 h2 ho ht (kk H locs ls hP hD hS hL)
theorem J_tabOut (hC : JC x G R cc w0 own nL) {dflt lo hi : Int} {offs : Array Int} {len : Nat} {v : Int32} {tgt : Nat} (hd : decode cc pc = .ok (.tableswitch dflt lo hi offs, len)) (h : v.toInt < lo ∨ hi < v.toInt) (ht : (pc : Int) + dflt = (tgt : Int)) (kk : J x G ws k n lv st tgt) : J x G ws k n lv (.int v :: st) pc := fun H locs ls hP hD hS hL => lv_tableOut hC.1 hC.2.1 hd h ht (kk H locs ls hP hD hS hL)
end JLAW
/-- which exception isn't which -/
def NCL : List (String × String) := []
def xN (U : State) : Prop := ∀ q ∈ NCL, va_Nc q.1 q.2 U
theorem xN.alike {s U : State} (h : xN s) (hv : s.vm.Alike U.vm) : xN U := fun q hq => va_Nc.moved hv (h q hq)
theorem xN.same {s U : State} (h : xN s) (hv : s.vm = U.vm) : xN U := h.alike (by rw [hv]; exact Vm.Alike.refl _)
/-- what a wrapper takes for granted -/
def gY (G : gT) (ws : va_W) (sz : Nat) (U : State) : Prop := gX G ws sz U ∧ xN U
theorem gY_blind (G : gT) (av : List Value) (ws : va_W) (sz : Nat) : FrameBlind (va_Pc av (gY G ws sz)) := fun a U g mk h => by
  have h1 := gX_blind G av ws sz a U g mk ⟨h.1, h.2.1⟩
  exact ⟨h1.1, h1.2, h.2.2.same rfl⟩
/-- a wrapper's contract: it always returns -/
abbrev WX {S : Type} (l : Launch) (y : MethodName) (cc : ByteArray) (maxL : Nat) (hh : List (Nat × Nat × Nat × Nat)) (rm : Room) (av : List Value) (G : gT) (W0 : va_W) (post : Int32 → S → Prop) (W1 : S → va_W) : Prop := ∀ sz : Nat, vx_Met l y (Cond.codeWith y cc maxL (some .int) hh :: GW) rm (va_Pc av (gY G W0 sz)) (va_Qi post (fun u => gB G (W1 u) (va_A W0 sz)) (va_A W0 sz)) (vx_X (fun (_ : Unit) => False) (xB G (fun _ => "") (fun _ => []) (va_A W0 sz)) (va_A W0 sz)) rm.cells rm.slots (va_A W0 sz)
/-- what a wrapper's body owes -/
def JW {S : Type} (x : JX) (G : gT) (hh : List (Nat × Nat × Nat × Nat)) (post : Int32 → S → Prop) (W1 : S → va_W) (mc ms : Nat) : Prop :=
  (jt x).sig.returnType = some .int ∧ (jt x).locks = false ∧ (jc x).exceptionTable.toList = tableOf hh ∧ xT (js x) ∧ xN (js x) ∧ jQ x = vx_MQ (jb x) (va_Qi post (fun u => gB G (W1 u) (jA x)) (jA x)) (vx_X (fun (_ : Unit) => False) (xB G (fun _ => "") (fun _ => []) (jA x)) (jA x)) (ja x) (js x) mc ms (jA x)
theorem jw_i {S : Type} {l : Launch} {y : MethodName} {rm : Room} {cc : ByteArray} {maxL : Nat} {hh : List (Nat × Nat × Nat × Nat)} {av : List Value} {G : gT} {W0 : va_W} {W1 : S → va_W} {post : Int32 → S → Prop} {own : String} (hy : plainName y.cls = true) (ho : y.cls = own) (hn : (lg_sl av).length ≤ maxL)
    (body : ∀ x : JX, jl x = l → JC x G rm cc (Cond.codeWith y cc maxL (some .int) hh) own maxL → JW x G hh post W1 rm.cells rm.slots → J x G W0 0 0 (lv_args 0 av) [] 0) :
    WX l y cc maxL hh rm av G W0 post W1 := by
  intro sz
  refine vx_ofWH (cc := cc) (maxL := maxL) (ret := some .int) (hh := hh) hy rfl ?_
  intro p e s m args below meth c s₁ B hml hv
  subst ho
  obtain ⟨rfl, ⟨⟨hsz, hP, hK, hD0, hE⟩, hxT⟩, hxN⟩ := hv
  have hts := atoms_spec (ws := Cond.codeWith y cc maxL (some .int) hh :: GW) B.pre
  have hown : s.vm.findClass y.cls = some m.cls := findClass_of_methodNamed B.named
  have htab := vx_table (x := y) B (hts _ List.mem_cons_self)
  subst hsz
  have hD := hD0.self (sz := s.heap.size)
  have hA : ∀ q : Nat, s.heap.size ≤ q → va_A W0 s.heap.size q := fun q h => Or.inr h
  have hl := lv_entry av (n := maxL) hn
  rw [lg_entry_eq]
  exact body (p, l, e, (headSpec (Cond.codeWith y cc maxL (some .int) hh :: GW) rm).room, s, m, av.toArray, below, meth, c, va_A W0 s.heap.size, s.heap, vx_MQ below (va_Qi post (fun u => gB G (W1 u) (va_A W0 s.heap.size)) (va_A W0 s.heap.size)) (vx_X (fun (_ : Unit) => False) (xB G (fun _ => "") (fun _ => []) (va_A W0 s.heap.size)) (va_A W0 s.heap.size)) av.toArray s rm.cells rm.slots (va_A W0 s.heap.size)) rfl
    ⟨B.exec, B.bytes, hml, hown, hts, hK, hA, rfl, rfl, hE⟩ ⟨B.returns, B.notSynchronized, htab, hxT, hxN, rfl⟩ s.heap [] _ hP hD va_S.rf (hml ▸ hl)
section JWS
variable {S : Type} {x : JX} {G : gT} {R : Room} {cc : ByteArray} {w0 : Cond} {own : String} {nL : Nat} {hh : List (Nat × Nat × Nat × Nat)} {ws : va_W} {k n mc ms : Nat} {lv : List (Nat × Value)} {st rest : List Value} {pc : Nat} {W1 : S → va_W} {post : Int32 → S → Prop}
theorem J_iretW {v : Int32} (hC : JC x G R cc w0 own nL) (hR : JW x G hh post W1 mc ms) (hd : decode cc pc = .ok (.ireturn, 1)) (u : S) (hp : post v u) (hw : ws = W1 u) (hk : k ≤ mc) (hs : n ≤ ms) : J x G ws k n lv [.int v] pc := by
  subst hw
  intro H locs ls hP hD hS hL
  obtain ⟨hr, hlk, -, -, -, hQ⟩ := hR
  rw [hQ]
  rw [hC.2.2.2.2.2.2.2.2.1] at hS
  refine vx_ret (W.widen hk hs ?_)
  exact W.zret hC.1 hC.2.1 hr rfl (fun t ht hW => ⟨⟨v, u, rfl, hp, by rw [ht]; exact hP, va_K.moved hW.alike hC.2.2.2.2.2.1, hD⟩, hS.F ht⟩) hS.2.2 hd hlk
/-- where an exception of class E that is thrown at pc is caught: at hp -/
def catchTo (x : JX) (own : String) (pc : Nat) (E : String) (hp : Nat) : Prop := ∃ (pre : List ExceptionTableEntry) (row : ExceptionTableEntry) (suf : List ExceptionTableEntry) (nm : String), (jc x).exceptionTable.toList = pre ++ row :: suf ∧
  (∀ z ∈ pre, covers z pc = false ∨ (z.catchType ≠ 0 ∧ ∃ n9 : String, (Cond.classLink own z.catchType n9).before (ja x) (js x) = true ∧ va_Nc E n9 (js x))) ∧ covers row pc = true ∧ row.catchType ≠ 0 ∧ (Cond.classLink own row.catchType nm).before (ja x) (js x) = true ∧ (Cond.castable E nm).before (ja x) (js x) = true ∧ row.handlerPc = hp
theorem catch1 (hC : JC x G R cc w0 own nL) (hR : JW x G hh post W1 mc ms) {a b h c : Nat} {r : List (Nat × Nat × Nat × Nat)} (hhe : hh = (a, b, h, c) :: r) {E : String} (hcov : covers ⟨a, b, h, c⟩ pc = true) (hc0 : c ≠ 0) (hl : Cond.classLink own c E ∈ GW) (hE : Cond.castable E E ∈ TWL) : catchTo x own pc E h := by
  obtain ⟨-, -, ht, hxT, -, -⟩ := hR
  subst hhe
  exact ⟨[], ⟨a, b, h, c⟩, tableOf r, E, ht, fun z hz => absurd hz List.not_mem_nil, hcov, hc0, hC.2.2.2.2.1 _ (List.mem_cons_of_mem _ hl), (hxT _ hE).use (twl_tab _ hE), rfl⟩
theorem catch2 (hC : JC x G R cc w0 own nL) (hR : JW x G hh post W1 mc ms) {a0 b0 h0 c0 a b h c : Nat} {r : List (Nat × Nat × Nat × Nat)} (hhe : hh = (a0, b0, h0, c0) :: (a, b, h, c) :: r) {E E0 : String} (hc1 : c0 ≠ 0) (hl0 : Cond.classLink own c0 E0 ∈ GW) (hN : (E, E0) ∈ NCL) (hcov : covers ⟨a, b, h, c⟩ pc = true) (hc0 : c ≠ 0) (hl : Cond.classLink own c E ∈ GW) (hE : Cond.castable E E ∈ TWL) : catchTo x own pc E h := by
  obtain ⟨-, -, ht, hxT, hxN, -⟩ := hR
  subst hhe
  refine ⟨[⟨a0, b0, h0, c0⟩], ⟨a, b, h, c⟩, tableOf r, E, ht, fun z hz => ?_, hcov, hc0, hC.2.2.2.2.1 _ (List.mem_cons_of_mem _ hl), (hxT _ hE).use (twl_tab _ hE), rfl⟩
  rw [List.mem_singleton] at hz
  subst hz
  exact Or.inr ⟨hc1, E0, hC.2.2.2.2.1 _ (List.mem_cons_of_mem _ hl0), hxN _ hN⟩
theorem catch3 (hC : JC x G R cc w0 own nL) (hR : JW x G hh post W1 mc ms) {a0 b0 h0 c0 a1 b1 h1 c1 a b h c : Nat} {r : List (Nat × Nat × Nat × Nat)} (hhe : hh = (a0, b0, h0, c0) :: (a1, b1, h1, c1) :: (a, b, h, c) :: r) {E E0 E1 : String} (hc1 : c0 ≠ 0) (hl0 : Cond.classLink own c0 E0 ∈ GW) (hN : (E, E0) ∈ NCL) (hc2 : c1 ≠ 0) (hl1 : Cond.classLink own c1 E1 ∈ GW) (hN1 : (E, E1) ∈ NCL) (hcov : covers ⟨a, b, h, c⟩ pc = true) (hc0 : c ≠ 0) (hl : Cond.classLink own c E ∈ GW) (hE : Cond.castable E E ∈ TWL) : catchTo x own pc E h := by
  obtain ⟨-, -, ht, hxT, hxN, -⟩ := hR
  subst hhe
  refine ⟨[⟨a0, b0, h0, c0⟩, ⟨a1, b1, h1, c1⟩], ⟨a, b, h, c⟩, tableOf r, E, ht, fun z hz => ?_, hcov, hc0, hC.2.2.2.2.1 _ (List.mem_cons_of_mem _ hl), (hxT _ hE).use (twl_tab _ hE), rfl⟩
  rcases List.mem_cons.mp hz with h | h
  · subst h
    exact Or.inr ⟨hc1, E0, hC.2.2.2.2.1 _ (List.mem_cons_of_mem _ hl0), hxN _ hN⟩
  · rw [List.mem_singleton] at h
    subst h
    exact Or.inr ⟨hc2, E1, hC.2.2.2.2.1 _ (List.mem_cons_of_mem _ hl1), hxN _ hN1⟩
end JWS
theorem J_callTiC {S SW SY : Type} {x : JX} {G : gT} {R : Room} {cc : ByteArray} {w0 : Cond} {own : String} {nL : Nat} {ws : va_W} {k n mc ms : Nat} {lv : List (Nat × Value)} {st rest : List Value} {pc : Nat} {C : String} {idx maxLY na : Nat} {y : MethodName} {ccY : ByteArray} {ret : Option FieldType} {rmY : Room} {As : List Value} {b : Nat}
    {hh : List (Nat × Nat × Nat × Nat)} {postW : Int32 → SW → Prop} {WW : SW → va_W} {py : SY → Prop} {EY : SY → String} {WY : SY → va_W} {post : Int32 → S → Prop} {W1 : S → va_W} {T : u_T} {N : Nat} {fs : List Value} (hC : JC x G R cc w0 own nL) (hT : JW x G hh postW WW mc ms) (hd : decode cc pc = .ok (.invokevirtual idx, 3)) (hl : Cond.methodLink own idx y ∈ GW) (hY : YV y C ccY maxLY ret na)
    (hM : TI (jl x) y ccY maxLY ret rmY (.ref b :: As) G ws post W1 py EY WY)
    (hst : st = As.reverse ++ .ref b :: rest) (hna : As.length = na) (q ci : Nat) (hq : ws[q]? = some (b, .inr (ci, fs))) (hc : vwCl[ci]? = some (C, T, N))
    (hR : rmY.frames + 1 ≤ R.frames ∧ 8 + (maxLY + 11) + rmY.locals ≤ R.locals) (hcat : (rest.map fun v => v.category).sum ≤ 8) (hk : k + rmY.cells ≤ R.cells) (hn : n + rmY.slots ≤ R.slots) 
    (kx : ∀ (u : SY) (q9 : Nat), py u → ∃ hp, catchTo x own pc (EY u) hp ∧ J x G (WY u) (k + rmY.cells) (n + rmY.slots) lv [.ref q9] hp)
    (kk : ∀ (r : Int32) (u : S), post r u → J x G (W1 u) (k + rmY.cells) (n + rmY.slots) lv (.int r :: rest) (pc + 3)) : J x G ws k n lv st pc := by
  intro H locs ls hP hD hS hL
  have hK := hC.2.2.2.2.2.1
  have hRR : jR x = R := hC.2.2.2.2.2.2.2.1
  have hE := hC.2.2.2.2.2.2.2.2.2
  have h9 := hC.2.2.2.2.2.2.2.2.1
  have hF := va_A_in hD hS hC.2.2.2.2.2.2.1
  refine vx_calli (vx_runV (As := As) (rest := rest) ⟨hC.1, hC.2.1, hC.2.2.1, hC.2.2.2.1, hC.2.2.2.2.1⟩ (hM H.size) (cwV na hC.2.2.2.2.1 (gwV hl hY.1 hY.2.1 hY.2.2.1 hY.2.2.2.1) rfl rfl rfl hY.2.2.2.2 (by rw [hRR]; exact hR)) ⟨gX_blind _ _ _ _, va_recv hK hP hc hq, fun U hU hW => ⟨rfl, ⟨by rw [hU], by rw [hU]; exact hP, va_K.moved hW.alike hK, hD.weaken (fun _ _ _ _ => trivial), hE.step hW (by rw [hU]; intro q hq hn; rw [h9] at hS; exact hS.2.1 q hq hn) hF⟩, hT.2.2.2.1.warm hW⟩⟩ rfl hna (hL.1.trans hC.2.2.1) hst (lv_room hcat) hd (by rw [hRR]; exact ⟨hk, hn⟩)) hS (fun q _ h => hF q h) hF (fun q _ h => hF q h)
    (fun E ce q9 u t H1 locs1 ht hvm hp hB hz hk1 hS1 hce hcv hcl => ?_) (fun r u t H1 locs1 ht hvm hw hB hz hk1 hS1 => ?_)
  · obtain ⟨hE1, hP1, hK1, hD1⟩ := hB
    rw [ht] at hP1
    obtain ⟨hp9, ⟨pre, row, suf, nm, g1, g2, g3, g4, g5, g6, g7⟩, hJ⟩ := kx u q9 hp
    subst g7
    rw [← hE1] at g2 g6
    exact vx_catch hC.2.2.2.1 pre row suf g1 g2 g3 g4 g5 g6 hce hcv hcl (hJ H1 locs1 ls hP1 (hD1.weaken (fun _ _ _ h => hF _ h)) hS1 hL)
  · obtain ⟨hP1, hK1, hD1⟩ := hB
    rw [ht] at hP1
    exact kk r u hw H1 locs1 ls hP1 (hD1.weaken (fun _ _ _ h => hF _ h)) hS1 hL

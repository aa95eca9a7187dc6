theorem fp_n64 {r : UInt64} (h : FP.Core.val64 r ≠ .nan) : vf_n64 r := by
  have h1 : FP.Core.decode FP.Core.b64 r.toNat ≠ .nan := h
  unfold vf_n64
  rw [UInt64.le_iff_toNat_le, UInt64.toNat_and]
  rw [show (0x7fffffffffffffff : UInt64).toNat = 2 ^ 63 - 1 by decide, Nat.and_two_pow_sub_one_eq_mod, show (0x7ff0000000000000 : UInt64).toNat = 2047 * 2 ^ 52 by decide]
  unfold FP.Core.decode at h1
  have eE : FP.Core.fieldE FP.Core.b64 r.toNat = r.toNat / 2 ^ 52 % 2048 := rfl
  have eT : FP.Core.fieldT FP.Core.b64 r.toNat = r.toNat % 2 ^ 52 := rfl
  rw [eE, eT, show FP.Core.b64.exps - 1 = 2047 from rfl] at h1
  have hz := r.toNat_lt
  generalize r.toNat = z at h1 hz ⊢
  by_cases c : z / 2 ^ 52 % 2048 = 2047
  · rw [if_pos c] at h1
    by_cases c2 : z % 2 ^ 52 = 0
    · omega
    · rw [if_neg c2] at h1; exact absurd rfl h1
  · omega
theorem fp_n32 {r : UInt32} (h : FP.Core.val32 r ≠ .nan) : vf_n32 r := by
  have h1 : FP.Core.decode FP.Core.b32 r.toNat ≠ .nan := h
  unfold vf_n32
  rw [UInt32.le_iff_toNat_le, UInt32.toNat_and]
  rw [show (0x7fffffff : UInt32).toNat = 2 ^ 31 - 1 by decide, Nat.and_two_pow_sub_one_eq_mod, show (0x7f800000 : UInt32).toNat = 255 * 2 ^ 23 by decide]
  unfold FP.Core.decode at h1
  have eE : FP.Core.fieldE FP.Core.b32 r.toNat = r.toNat / 2 ^ 23 % 256 := rfl
  have eT : FP.Core.fieldT FP.Core.b32 r.toNat = r.toNat % 2 ^ 23 := rfl
  rw [eE, eT, show FP.Core.b32.exps - 1 = 255 from rfl] at h1
  have hz := r.toNat_lt
  generalize r.toNat = z at h1 hz ⊢
  by_cases c : z / 2 ^ 23 % 256 = 255
  · rw [if_pos c] at h1
    by_cases c2 : z % 2 ^ 23 = 0
    · omega
    · rw [if_neg c2] at h1; exact absurd rfl h1
  · omega
/-- no zero, no NaN -/
def fp_nz : FP.Core.Datum → Prop
  | .nan => False
  | .inf _ => False
  | .fin _ c _ => c ≠ 0
theorem fp_round {f : FP.Core.Fmt} (hp : f.p = 53 ∨ f.p = 24) (hq : f.qmin ≤ -100) (hm : 100 ≤ f.qmax) {z : Int} (h : z ≠ 0) (hz : z.natAbs < 2 ^ 40) : fp_nz (FP.Core.round f (FP.Core.ofInt z)) := by
  show fp_nz (FP.Core.roundRatio f _ z.natAbs 1 0)
  have hn : z.natAbs ≠ 0 := by omega
  generalize z.natAbs = n at hn hz ⊢
  rw [FP.Core.roundRatio, if_neg hn]
  have hlog : n.log2 < 40 := (Nat.log2_lt hn).mpr hz
  have hlo : 2 ^ n.log2 ≤ n := Nat.log2_self_le hn
  have hl : FP.Core.leading n 1 = n.log2 := by
    unfold FP.Core.leading
    have e1 : Nat.log2 1 = 0 := by decide
    simp only [e1, Int.natCast_zero, Int.sub_zero, Int.toNat_natCast]
    rw [if_pos]
    have : (-(n.log2 : Int)).toNat = 0 := by omega
    rw [this]
    omega
  have hqq : FP.Core.quantum f n 1 0 = (n.log2 : Int) - ((f.p : Int) - 1) := by
    unfold FP.Core.quantum
    rw [hl]
    rcases hp with hp | hp <;> rw [hp] <;> omega
  unfold FP.Core.roundAt
  rw [hqq]
  generalize hQ : (n.log2 : Int) - ((f.p : Int) - 1) = Q
  have hQ1 : Q ≤ 20 := by rcases hp with hp | hp <;> rw [hp] at hQ <;> omega
  have hne : FP.Core.nearest (FP.Core.unitsNum n 0 Q) (FP.Core.unitsDen 1 0 Q) ≠ 0 := by
    have hd : FP.Core.unitsDen 1 0 Q ≤ FP.Core.unitsNum n 0 Q := by
      unfold FP.Core.unitsDen FP.Core.unitsNum
      rw [Int.sub_zero, Nat.one_mul]
      have h1 : 2 ^ Q.toNat ≤ 2 ^ n.log2 := Nat.pow_le_pow_right (by decide) (by rcases hp with hp | hp <;> rw [hp] at hQ <;> omega)
      have h2 : 0 < 2 ^ (0 - Q).toNat := Nat.two_pow_pos _
      exact Nat.le_trans (Nat.le_trans h1 hlo) (Nat.le_mul_of_pos_right _ h2)
    have hpos : 0 < FP.Core.unitsDen 1 0 Q := by
      unfold FP.Core.unitsDen
      rw [Nat.one_mul]
      exact Nat.two_pow_pos _
    have hge : 1 ≤ FP.Core.unitsNum n 0 Q / FP.Core.unitsDen 1 0 Q := (Nat.le_div_iff_mul_le hpos).mpr (by omega)
    unfold FP.Core.nearest
    split
    · omega
    · split <;> omega
  generalize FP.Core.nearest (FP.Core.unitsNum n 0 Q) (FP.Core.unitsDen 1 0 Q) = u at hne
  have htl : f.tails ≠ 0 := Nat.pos_iff_ne_zero.mp (FP.Core.tails_pos f)
  unfold FP.Core.settle
  split
  · unfold FP.Core.bound
    rw [if_pos (by omega)]
    exact hne
  · unfold FP.Core.bound
    rw [if_pos (by omega)]
    exact htl
theorem fp_quot {f : FP.Core.Fmt} {x y : FP.Core.Datum} (hx : x ≠ .nan) (hx2 : ∀ s, x ≠ .inf s) (hy : fp_nz y) : FP.Core.quotient f x y ≠ .nan := by
  cases y with
  | nan => exact hy.elim
  | inf _ => exact hy.elim
  | fin t d r =>
    cases x with
    | nan => exact absurd rfl hx
    | inf s => exact absurd rfl (hx2 s)
    | fin s c q =>
      have hd : d ≠ 0 := hy
      show (if d = 0 then (if c = 0 then FP.Core.Datum.nan else .inf (s != t)) else FP.Core.roundRatio f (s != t) c d (q - r)) ≠ .nan
      rw [if_neg hd]
      unfold FP.Core.roundRatio
      split
      · exact FP.Core.Datum.noConfusion
      · unfold FP.Core.roundAt FP.Core.settle FP.Core.bound
        split <;> split <;> exact FP.Core.Datum.noConfusion
theorem fp_fin {f : FP.Core.Fmt} (hp : f.p = 53 ∨ f.p = 24) (hq : f.qmin ≤ -100) (hm : 100 ≤ f.qmax) {z : Int} (hz : z.natAbs < 2 ^ 40) : FP.Core.round f (FP.Core.ofInt z) ≠ .nan ∧ ∀ s, FP.Core.round f (FP.Core.ofInt z) ≠ .inf s := by
  by_cases h : z = 0
  · subst h
    exact ⟨FP.Core.Datum.noConfusion, fun _ => FP.Core.Datum.noConfusion⟩
  · have := fp_round hp hq hm h hz
    revert this
    cases FP.Core.round f (FP.Core.ofInt z) with
    | nan => exact fun h => h.elim
    | inf _ => exact fun h => h.elim
    | fin _ _ _ => exact fun _ => ⟨FP.Core.Datum.noConfusion, fun _ => FP.Core.Datum.noConfusion⟩
theorem i32_abs (a : Int32) : a.toInt.natAbs < 2 ^ 40 := by
  have h1 := a.toInt_lt
  have h2 := a.le_toInt
  omega
theorem fp_ddiv (a b : Int32) (h : b ≠ 0) : vf_n64 (FP.ddiv (FP.i2d a) (FP.i2d b)) := by
  refine fp_n64 ?_
  show FP.Core.val64 (FP.Core.ddiv (FP.Core.i2d a) (FP.Core.i2d b)) ≠ .nan
  rw [FP.Core.val64_ddiv, FP.Core.val64_i2d, FP.Core.val64_i2d]
  have ha := fp_fin (f := FP.Core.b64) (Or.inl rfl) (by decide) (by decide) (i32_abs a)
  exact fp_quot ha.1 ha.2 (fp_round (Or.inl rfl) (by decide) (by decide) (fun e => h (Int32.toInt_inj.mp e)) (i32_abs b))
theorem fp_fdiv0 (a b : Int32) (h : b ≠ 0) : FP.Core.val32 (FP.Core.fdiv (FP.Core.i2f a) (FP.Core.i2f b)) ≠ .nan := by
  rw [FP.Core.val32_fdiv, FP.Core.val32_i2f, FP.Core.val32_i2f]
  have ha := fp_fin (f := FP.Core.b32) (Or.inr rfl) (by decide) (by decide) (i32_abs a)
  exact fp_quot ha.1 ha.2 (fp_round (Or.inr rfl) (by decide) (by decide) (fun e => h (Int32.toInt_inj.mp e)) (i32_abs b))
theorem fp_fdiv (a b : Int32) (h : b ≠ 0) : vf_n32 (FP.fdiv (FP.i2f a) (FP.i2f b)) := fp_n32 (fp_fdiv0 a b h)
theorem fp_f2d (r : UInt32) (h : FP.Core.val32 r ≠ .nan) : vf_n64 (FP.f2d r) := by
  have e : FP.f2d r = FP.Core.f2d r := by
    unfold FP.f2d
    rw [if_neg (fun c => h (by
      have : decide (FP.Core.decode FP.Core.b32 r.toNat = .nan) = true := c
      exact of_decide_eq_true this))]
  rw [e]
  refine fp_n64 ?_
  rw [FP.Core.val64_f2d]
  cases hv : FP.Core.val32 r with
  | nan => exact absurd hv h
  | inf s => exact FP.Core.Datum.noConfusion
  | fin s c q =>
    show FP.Core.roundRatio FP.Core.b64 s c 1 q ≠ .nan
    unfold FP.Core.roundRatio
    split
    · exact FP.Core.Datum.noConfusion
    · unfold FP.Core.roundAt FP.Core.settle FP.Core.bound
      split <;> split <;> exact FP.Core.Datum.noConfusion
section JF
variable {x : JX} {G : gT} {R : Room} {cc : ByteArray} {w0 : Cond} {own : String} {nL : Nat} {ws : va_W} {k n : Nat} {lv : List (Nat × Value)} {st : List Value} {pc : Nat}
theorem J_i2d (hC : JC x G R cc w0 own nL) {a : Int32} (hd : decode cc pc = .ok (.i2d, 1)) (kk : J x G ws k n lv (.double (FP.i2d a) :: st) (pc + 1)) : J x G ws k n lv (.int a :: st) pc := fun H locs ls hP hD hS hL => lv_i2d hC.1 hC.2.1 hd (kk H locs ls hP hD hS hL)
theorem J_i2f (hC : JC x G R cc w0 own nL) {a : Int32} (hd : decode cc pc = .ok (.i2f, 1)) (kk : J x G ws k n lv (.float (FP.i2f a) :: st) (pc + 1)) : J x G ws k n lv (.int a :: st) pc := fun H locs ls hP hD hS hL => lv_i2f hC.1 hC.2.1 hd (kk H locs ls hP hD hS hL)
theorem J_f2d (hC : JC x G R cc w0 own nL) {a : UInt32} (hd : decode cc pc = .ok (.f2d, 1)) (hne : vf_n64 (FP.f2d a)) (kk : J x G ws k n lv (.double (FP.f2d a) :: st) (pc + 1)) : J x G ws k n lv (.float a :: st) pc := fun H locs ls hP hD hS hL => lv_f2d hC.1 hC.2.1 hd hne (kk H locs ls hP hD hS hL)
theorem J_ddiv (hC : JC x G R cc w0 own nL) {a b : UInt64} (hd : decode cc pc = .ok (.ddiv, 1)) (hne : vf_n64 (FP.ddiv a b)) (kk : J x G ws k n lv (.double (FP.ddiv a b) :: st) (pc + 1)) : J x G ws k n lv (.double b :: .double a :: st) pc := fun H locs ls hP hD hS hL => lv_ddiv hC.1 hC.2.1 hd hne (kk H locs ls hP hD hS hL)
theorem J_fdiv (hC : JC x G R cc w0 own nL) {a b : UInt32} (hd : decode cc pc = .ok (.fdiv, 1)) (hne : vf_n32 (FP.fdiv a b)) (kk : J x G ws k n lv (.float (FP.fdiv a b) :: st) (pc + 1)) : J x G ws k n lv (.float b :: .float a :: st) pc := fun H locs ls hP hD hS hL => lv_fdiv hC.1 hC.2.1 hd hne (kk H locs ls hP hD hS hL)
theorem J_dconst0 (hC : JC x G R cc w0 own nL) (hd : decode cc pc = .ok (.dconst 0, 1)) (kk : J x G ws k n lv (.double FP.dconst0 :: st) (pc + 1)) : J x G ws k n lv st pc := fun H locs ls hP hD hS hL => lv_dconst0 hC.1 hC.2.1 hd (kk H locs ls hP hD hS hL)
theorem J_fconst0 (hC : JC x G R cc w0 own nL) (hd : decode cc pc = .ok (.fconst 0, 1)) (kk : J x G ws k n lv (.float FP.fconst0 :: st) (pc + 1)) : J x G ws k n lv st pc := fun H locs ls hP hD hS hL => lv_fconst0 hC.1 hC.2.1 hd (kk H locs ls hP hD hS hL)
theorem J_dcmp (hC : JC x G R cc w0 own nL) {a b : UInt64} {op : CmpOp} (hd : decode cc pc = .ok (.dcmp op, 1)) (kk : J x G ws k n lv (.int (Op.cmpValue (FP.dcmp a b) op) :: st) (pc + 1)) : J x G ws k n lv (.double b :: .double a :: st) pc := fun H locs ls hP hD hS hL => lv_dcmp hC.1 hC.2.1 hd (kk H locs ls hP hD hS hL)
end JF
def JRd {S : Type} (x : JX) (G : gT) (post : UInt64 → S → Prop) (W1 : S → va_W) (mc ms : Nat) : Prop :=
  (jt x).sig.returnType = some .double ∧ (jt x).locks = false ∧ jQ x = MQ (jb x) (va_Qd post (fun u => gB G (W1 u) (jA x)) (jA x) ) (ja x) (js x) mc ms (jA x)
theorem J_dret {S : Type} {x : JX} {G : gT} {R : Room} {cc : ByteArray} {w0 : Cond} {own : String} {nL : Nat} {ws : va_W} {k n mc ms : Nat} {lv : List (Nat × Value)} {pc : Nat} {post : UInt64 → S → Prop} {W1 : S → va_W} {v : UInt64} (hC : JC x G R cc w0 own nL) (hR : JRd x G post W1 mc ms)
    (hd : decode cc pc = .ok (.dreturn, 1)) (u : S) (hp : post v u) (hw : ws = W1 u) (hk : k ≤ mc) (hs : n ≤ ms) : J x G ws k n lv [.double v] pc := by
  subst hw
  intro H locs ls hP hD hS hL
  obtain ⟨hr, hlk, hQ⟩ := hR
  rw [hQ]
  rw [hC.2.2.2.2.2.2.2.2.1] at hS
  refine W.widen hk hs ?_
  exact W.dret hC.1 hC.2.1 hr (fun t ht hW => ⟨⟨v, u, rfl, hp, by rw [ht]; exact hP, va_K.moved hW.alike hC.2.2.2.2.2.1, hD⟩, hS.F ht⟩) hS.2.2 hd hlk
abbrev MD {S : Type} (l : Launch) (y : MethodName) (cc : ByteArray) (maxL : Nat) (rm : Room) (av : List Value) (G : gT) (W0 : va_W) (post : UInt64 → S → Prop) (W1 : S → va_W) : Prop := ∀ sz : Nat, Met l y (Cond.code y cc maxL (some .double) :: GW) rm (va_Pc av (gP G W0 sz)) (va_Qd post (fun u => gB G (W1 u) (va_A W0 sz)) (va_A W0 sz)) rm.cells rm.slots (va_A W0 sz)
theorem jm_d {S : Type} {l : Launch} {y : MethodName} {rm : Room} {cc : ByteArray} {maxL : Nat} {av : List Value} {G : gT} {W0 : va_W} {W1 : S → va_W} {post : UInt64 → S → Prop} {own : String} (hy : plainName y.cls = true) (ho : y.cls = own) (hn : (lg_sl av).length ≤ maxL)
    (body : ∀ x : JX, jl x = l → JC x G rm cc (Cond.code y cc maxL (some .double)) own maxL → JRd x G post W1 rm.cells rm.slots → (jt x).name = y.name → J x G W0 0 0 (lv_args 0 av) [] 0) :
    MD l y cc maxL rm av G W0 post W1 := by
  intro sz
  refine Met.ofW (cc := cc) (maxL := maxL) (ret := some .double) hy rfl ?_
  intro p e s m args below meth c s₁ B hml hv
  subst ho
  obtain ⟨rfl, hsz, hP, hK, hD0, hE⟩ := hv
  have hts := atoms_spec (ws := Cond.code y cc maxL (some .double) :: GW) B.pre
  have hown : s.vm.findClass y.cls = some m.cls := findClass_of_methodNamed B.named
  subst hsz
  have hD := hD0.self (sz := s.heap.size)
  have hA : ∀ q : Nat, s.heap.size ≤ q → va_A W0 s.heap.size q := fun q h => Or.inr h
  have hl := lv_entry av (n := maxL) hn
  rw [lg_entry_eq]
  exact body (p, l, e, (headSpec (Cond.code y cc maxL (some .double) :: GW) rm).room, s, m, av.toArray, below, meth, c, va_A W0 s.heap.size, s.heap, MQ below (va_Qd post (fun u => gB G (W1 u) (va_A W0 s.heap.size)) (va_A W0 s.heap.size)) av.toArray s rm.cells rm.slots (va_A W0 s.heap.size)) rfl
    ⟨B.exec, B.bytes, hml, hown, hts, hK, hA, rfl, rfl, hE⟩ ⟨B.returns, B.notSynchronized, rfl⟩ (name_of_methodNamed B.named B.method).1 s.heap [] _ hP hD va_S.rf (hml ▸ hl)
section FRD
variable {S : Type} {l : Launch} {y : MethodName} {ws : List Cond} {rm : Room} {av : List Value} {G : gT} {W0 wc wr : va_W} {w1 W1 : S → va_W} {mc ms : Nat}
theorem fr_d {post : UInt64 → S → Prop} (hM : ∀ sz : Nat, Met l y ws rm (va_Pc av (gP G wc sz)) (va_Qd post (fun u => gB G (w1 u) (va_A wc sz)) (va_A wc sz)) mc ms (va_A wc sz)) (h0 : W0.Perm (wc ++ wr)) (h1 : ∀ u, (w1 u ++ wr).Perm (W1 u)) :
    ∀ sz : Nat, Met l y ws rm (va_Pc av (gP G W0 sz)) (va_Qd post (fun u => gB G (W1 u) (va_A W0 sz)) (va_A W0 sz)) mc ms (va_A W0 sz) := by
  intro sz p e ha hc hk s m args below hf happ hP hKt
  obtain ⟨n, o, g1, g2, g3, ⟨⟨r, u, ho, hpost, hB⟩, hF⟩, L, hFE, hL⟩ := hM sz p e ha hc hk s m args below hf happ ⟨hP.1, fr_sub h0 hP.2⟩ trivial
  obtain ⟨hB2, hF2⟩ := fr_go h0 (h1 u) hP.2 hB hF
  exact ⟨n, o, g1, g2, g3, ⟨⟨r, u, ho, hpost, hB2⟩, hF2⟩, L, hFE, fun q hq => fr_mono h0 _ (hL q hq)⟩
end FRD
section JCD
variable {S : Type} {x : JX} {G : gT} {R : Room} {cc : ByteArray} {w0 : Cond} {own : String} {nL : Nat} {ws : va_W} {k n : Nat} {lv : List (Nat × Value)} {st rest : List Value} {pc : Nat}
variable {C : String} {idx maxLY na : Nat} {y : MethodName} {ccY : ByteArray} {rmY : Room} {As : List Value} {b : Nat}
theorem J_callVd {post : UInt64 → S → Prop} {W1 : S → va_W} {T : u_T} {N : Nat} {fs : List Value} (hC : JC x G R cc w0 own nL) (hd : decode cc pc = .ok (.invokevirtual idx, 3)) (hl : Cond.methodLink own idx y ∈ GW) (hY : YV y C ccY maxLY (some .double) na)
    (hM : MD (jl x) y ccY maxLY rmY (.ref b :: As) G ws post W1)
    (hst : st = As.reverse ++ .ref b :: rest) (hna : As.length = na) (q ci : Nat) (hq : ws[q]? = some (b, .inr (ci, fs))) (hc : vwCl[ci]? = some (C, T, N))
    (hR : rmY.frames + 1 ≤ R.frames ∧ 8 + (maxLY + 11) + rmY.locals ≤ R.locals) (hcat : (rest.map fun v => v.category).sum ≤ 8) (hk : k + rmY.cells ≤ R.cells) (hn : n + rmY.slots ≤ R.slots)
    (kk : ∀ (r : UInt64) (u : S), post r u → J x G (W1 u) (k + rmY.cells) (n + rmY.slots) lv (.double r :: rest) (pc + 3)) : J x G ws k n lv st pc := by
  intro H locs ls hP hD hS hL
  have hK := hC.2.2.2.2.2.1
  have hRR : jR x = R := hC.2.2.2.2.2.2.2.1
  have hE := hC.2.2.2.2.2.2.2.2.2
  have hF := va_A_in hD hS hC.2.2.2.2.2.2.1
  refine va_calld (va_runV (As := As) (rest := rest) ⟨hC.1, hC.2.1, hC.2.2.1, hC.2.2.2.1, hC.2.2.2.2.1⟩ (hM H.size) (cwV na hC.2.2.2.2.1 (gwV hl hY.1 hY.2.1 hY.2.2.1 hY.2.2.2.1) rfl rfl rfl hY.2.2.2.2 (by rw [hRR]; exact hR)) ⟨gP_blind _ _ _ _, va_recv hK hP hc hq, fun U hU hW => ⟨rfl, by rw [hU], by rw [hU]; exact hP, va_K.moved hW.alike hK, hD.weaken (fun _ _ _ _ => trivial), hE.step hW (by rw [hU]; intro q hq hn; rw [hC.2.2.2.2.2.2.2.2.1] at hS; exact hS.2.1 q hq hn) hF⟩⟩ rfl hna (hL.1.trans hC.2.2.1) hst (lv_room hcat) hd (by rw [hRR]; exact ⟨hk, hn⟩)) hS (fun q _ h => hF q h) hF (fun r u t H1 locs1 ht hvm hw hB hz hk1 hS1 => ?_)
  obtain ⟨hP1, hK1, hD1⟩ := hB
  rw [ht] at hP1
  exact kk r u hw H1 locs1 ls hP1 (hD1.weaken (fun _ _ _ h => hF _ h)) hS1 hL
end JCD
def JRf {S : Type} (x : JX) (G : gT) (post : UInt32 → S → Prop) (W1 : S → va_W) (mc ms : Nat) : Prop :=
  (jt x).sig.returnType = some .float ∧ (jt x).locks = false ∧ jQ x = MQ (jb x) (va_Qf post (fun u => gB G (W1 u) (jA x)) (jA x) ) (ja x) (js x) mc ms (jA x)
theorem J_fret {S : Type} {x : JX} {G : gT} {R : Room} {cc : ByteArray} {w0 : Cond} {own : String} {nL : Nat} {ws : va_W} {k n mc ms : Nat} {lv : List (Nat × Value)} {pc : Nat} {post : UInt32 → S → Prop} {W1 : S → va_W} {v : UInt32} (hC : JC x G R cc w0 own nL) (hR : JRf x G post W1 mc ms)
    (hd : decode cc pc = .ok (.freturn, 1)) (u : S) (hp : post v u) (hw : ws = W1 u) (hk : k ≤ mc) (hs : n ≤ ms) : J x G ws k n lv [.float v] pc := by
  subst hw
  intro H locs ls hP hD hS hL
  obtain ⟨hr, hlk, hQ⟩ := hR
  rw [hQ]
  rw [hC.2.2.2.2.2.2.2.2.1] at hS
  refine W.widen hk hs ?_
  exact W.fret hC.1 hC.2.1 hr (fun t ht hW => ⟨⟨v, u, rfl, hp, by rw [ht]; exact hP, va_K.moved hW.alike hC.2.2.2.2.2.1, hD⟩, hS.F ht⟩) hS.2.2 hd hlk
abbrev MF {S : Type} (l : Launch) (y : MethodName) (cc : ByteArray) (maxL : Nat) (rm : Room) (av : List Value) (G : gT) (W0 : va_W) (post : UInt32 → S → Prop) (W1 : S → va_W) : Prop := ∀ sz : Nat, Met l y (Cond.code y cc maxL (some .float) :: GW) rm (va_Pc av (gP G W0 sz)) (va_Qf post (fun u => gB G (W1 u) (va_A W0 sz)) (va_A W0 sz)) rm.cells rm.slots (va_A W0 sz)
theorem jm_f {S : Type} {l : Launch} {y : MethodName} {rm : Room} {cc : ByteArray} {maxL : Nat} {av : List Value} {G : gT} {W0 : va_W} {W1 : S → va_W} {post : UInt32 → S → Prop} {own : String} (hy : plainName y.cls = true) (ho : y.cls = own) (hn : (lg_sl av).length ≤ maxL)
    (body : ∀ x : JX, jl x = l → JC x G rm cc (Cond.code y cc maxL (some .float)) own maxL → JRf x G post W1 rm.cells rm.slots → (jt x).name = y.name → J x G W0 0 0 (lv_args 0 av) [] 0) :
    MF l y cc maxL rm av G W0 post W1 := by
  intro sz
  refine Met.ofW (cc := cc) (maxL := maxL) (ret := some .float) hy rfl ?_
  intro p e s m args below meth c s₁ B hml hv
  subst ho
  obtain ⟨rfl, hsz, hP, hK, hD0, hE⟩ := hv
  have hts := atoms_spec (ws := Cond.code y cc maxL (some .float) :: GW) B.pre
  have hown : s.vm.findClass y.cls = some m.cls := findClass_of_methodNamed B.named
  subst hsz
  have hD := hD0.self (sz := s.heap.size)
  have hA : ∀ q : Nat, s.heap.size ≤ q → va_A W0 s.heap.size q := fun q h => Or.inr h
  have hl := lv_entry av (n := maxL) hn
  rw [lg_entry_eq]
  exact body (p, l, e, (headSpec (Cond.code y cc maxL (some .float) :: GW) rm).room, s, m, av.toArray, below, meth, c, va_A W0 s.heap.size, s.heap, MQ below (va_Qf post (fun u => gB G (W1 u) (va_A W0 s.heap.size)) (va_A W0 s.heap.size)) av.toArray s rm.cells rm.slots (va_A W0 s.heap.size)) rfl
    ⟨B.exec, B.bytes, hml, hown, hts, hK, hA, rfl, rfl, hE⟩ ⟨B.returns, B.notSynchronized, rfl⟩ (name_of_methodNamed B.named B.method).1 s.heap [] _ hP hD va_S.rf (hml ▸ hl)
section FRF
variable {S : Type} {l : Launch} {y : MethodName} {ws : List Cond} {rm : Room} {av : List Value} {G : gT} {W0 wc wr : va_W} {w1 W1 : S → va_W} {mc ms : Nat}
theorem fr_f {post : UInt32 → S → Prop} (hM : ∀ sz : Nat, Met l y ws rm (va_Pc av (gP G wc sz)) (va_Qf post (fun u => gB G (w1 u) (va_A wc sz)) (va_A wc sz)) mc ms (va_A wc sz)) (h0 : W0.Perm (wc ++ wr)) (h1 : ∀ u, (w1 u ++ wr).Perm (W1 u)) :
    ∀ sz : Nat, Met l y ws rm (va_Pc av (gP G W0 sz)) (va_Qf post (fun u => gB G (W1 u) (va_A W0 sz)) (va_A W0 sz)) mc ms (va_A W0 sz) := by
  intro sz p e ha hc hk s m args below hf happ hP hKt
  obtain ⟨n, o, g1, g2, g3, ⟨⟨r, u, ho, hpost, hB⟩, hF⟩, L, hFE, hL⟩ := hM sz p e ha hc hk s m args below hf happ ⟨hP.1, fr_sub h0 hP.2⟩ trivial
  obtain ⟨hB2, hF2⟩ := fr_go h0 (h1 u) hP.2 hB hF
  exact ⟨n, o, g1, g2, g3, ⟨⟨r, u, ho, hpost, hB2⟩, hF2⟩, L, hFE, fun q hq => fr_mono h0 _ (hL q hq)⟩
end FRF
section JCF
variable {S : Type} {x : JX} {G : gT} {R : Room} {cc : ByteArray} {w0 : Cond} {own : String} {nL : Nat} {ws : va_W} {k n : Nat} {lv : List (Nat × Value)} {st rest : List Value} {pc : Nat}
variable {C : String} {idx maxLY na : Nat} {y : MethodName} {ccY : ByteArray} {rmY : Room} {As : List Value} {b : Nat}
theorem J_callVf {post : UInt32 → S → Prop} {W1 : S → va_W} {T : u_T} {N : Nat} {fs : List Value} (hC : JC x G R cc w0 own nL) (hd : decode cc pc = .ok (.invokevirtual idx, 3)) (hl : Cond.methodLink own idx y ∈ GW) (hY : YV y C ccY maxLY (some .float) na)
    (hM : MF (jl x) y ccY maxLY rmY (.ref b :: As) G ws post W1)
    (hst : st = As.reverse ++ .ref b :: rest) (hna : As.length = na) (q ci : Nat) (hq : ws[q]? = some (b, .inr (ci, fs))) (hc : vwCl[ci]? = some (C, T, N))
    (hR : rmY.frames + 1 ≤ R.frames ∧ 8 + (maxLY + 11) + rmY.locals ≤ R.locals) (hcat : (rest.map fun v => v.category).sum ≤ 8) (hk : k + rmY.cells ≤ R.cells) (hn : n + rmY.slots ≤ R.slots)
    (kk : ∀ (r : UInt32) (u : S), post r u → J x G (W1 u) (k + rmY.cells) (n + rmY.slots) lv (.float r :: rest) (pc + 3)) : J x G ws k n lv st pc := by
  intro H locs ls hP hD hS hL
  have hK := hC.2.2.2.2.2.1
  have hRR : jR x = R := hC.2.2.2.2.2.2.2.1
  have hE := hC.2.2.2.2.2.2.2.2.2
  have hF := va_A_in hD hS hC.2.2.2.2.2.2.1
  refine va_callf (va_runV (As := As) (rest := rest) ⟨hC.1, hC.2.1, hC.2.2.1, hC.2.2.2.1, hC.2.2.2.2.1⟩ (hM H.size) (cwV na hC.2.2.2.2.1 (gwV hl hY.1 hY.2.1 hY.2.2.1 hY.2.2.2.1) rfl rfl rfl hY.2.2.2.2 (by rw [hRR]; exact hR)) ⟨gP_blind _ _ _ _, va_recv hK hP hc hq, fun U hU hW => ⟨rfl, by rw [hU], by rw [hU]; exact hP, va_K.moved hW.alike hK, hD.weaken (fun _ _ _ _ => trivial), hE.step hW (by rw [hU]; intro q hq hn; rw [hC.2.2.2.2.2.2.2.2.1] at hS; exact hS.2.1 q hq hn) hF⟩⟩ rfl hna (hL.1.trans hC.2.2.1) hst (lv_room hcat) hd (by rw [hRR]; exact ⟨hk, hn⟩)) hS (fun q _ h => hF q h) hF (fun r u t H1 locs1 ht hvm hw hB hz hk1 hS1 => ?_)
  obtain ⟨hP1, hK1, hD1⟩ := hB
  rw [ht] at hP1
  exact kk r u hw H1 locs1 ls hP1 (hD1.weaken (fun _ _ _ h => hF _ h)) hS1 hL
end JCF
abbrev JTd {S SX : Type} (x : JX) (G : gT) (post : UInt64 → S → Prop) (W1 : S → va_W) (px : SX → Prop) (EX : SX → String) (WX : SX → va_W) (mc ms : Nat) : Prop :=
  (jt x).sig.returnType = some .double ∧ JT x G (va_Qd post (fun u => gB G (W1 u) (jA x)) (jA x)) px EX WX mc ms
section JTD
variable {S SX : Type} {x : JX} {G : gT} {R : Room} {cc : ByteArray} {w0 : Cond} {own : String} {nL : Nat} {ws : va_W} {k n mc ms : Nat} {lv : List (Nat × Value)} {rest : List Value} {pc : Nat} {W1 : S → va_W} {px : SX → Prop} {EX : SX → String} {WX : SX → va_W}
theorem J_dretT {post : UInt64 → S → Prop} {v : UInt64} (hC : JC x G R cc w0 own nL) (hR : JTd x G post W1 px EX WX mc ms)
    (hd : decode cc pc = .ok (.dreturn, 1)) (u : S) (hp : post v u) (hw : ws = W1 u) (hk : k ≤ mc) (hs : n ≤ ms) : J x G ws k n lv [.double v] pc := by
  subst hw
  intro H locs ls hP hD hS hL
  obtain ⟨hr, hlk, -, -, -, hQ⟩ := hR
  rw [hQ]
  rw [hC.2.2.2.2.2.2.2.2.1] at hS
  refine vx_ret (W.widen hk hs ?_)
  exact W.dret hC.1 hC.2.1 hr (fun t ht hW => ⟨⟨v, u, rfl, hp, by rw [ht]; exact hP, va_K.moved hW.alike hC.2.2.2.2.2.1, hD⟩, hS.F ht⟩) hS.2.2 hd hlk
end JTD
abbrev TD {S SX : Type} (l : Launch) (y : MethodName) (cc : ByteArray) (maxL : Nat) (rm : Room) (av : List Value) (G : gT) (W0 : va_W) (post : UInt64 → S → Prop) (W1 : S → va_W) (px : SX → Prop) (EX : SX → String) (WX : SX → va_W) : Prop := ∀ sz : Nat, vx_Met l y (Cond.code y cc maxL (some .double) :: GW) rm (va_Pc av (gX G W0 sz)) (va_Qd post (fun u => gB G (W1 u) (va_A W0 sz)) (va_A W0 sz)) (vx_X px (xB G EX WX (va_A W0 sz)) (va_A W0 sz)) rm.cells rm.slots (va_A W0 sz)
theorem jt_d {S SX : Type} {l : Launch} {y : MethodName} {rm : Room} {cc : ByteArray} {maxL : Nat} {av : List Value} {G : gT} {W0 : va_W} {W1 : S → va_W} {post : UInt64 → S → Prop} {px : SX → Prop} {EX : SX → String} {WX : SX → va_W} {own : String} (hst : l.stackTraces = false) (hy : plainName y.cls = true) (ho : y.cls = own) (hn : (lg_sl av).length ≤ maxL)
    (body : ∀ x : JX, jl x = l → JC x G rm cc (Cond.code y cc maxL (some .double)) own maxL → JTd x G post W1 px EX WX rm.cells rm.slots → (jt x).name = y.name → J x G W0 0 0 (lv_args 0 av) [] 0) :
    TD l y cc maxL rm av G W0 post W1 px EX WX := by
  intro sz
  refine vx_ofW (cc := cc) (maxL := maxL) (ret := some .double) hy rfl ?_
  intro p e s m args below meth c s₁ B hml htab hv
  subst ho
  obtain ⟨rfl, ⟨hsz, hP, hK, hD0, hE⟩, hxT⟩ := hv
  have hts := atoms_spec (ws := Cond.code y cc maxL (some .double) :: GW) B.pre
  have hown : s.vm.findClass y.cls = some m.cls := findClass_of_methodNamed B.named
  subst hsz
  have hD := hD0.self (sz := s.heap.size)
  have hA : ∀ q : Nat, s.heap.size ≤ q → va_A W0 s.heap.size q := fun q h => Or.inr h
  have hl := lv_entry av (n := maxL) hn
  rw [lg_entry_eq]
  exact body (p, l, e, (headSpec (Cond.code y cc maxL (some .double) :: GW) rm).room, s, m, av.toArray, below, meth, c, va_A W0 s.heap.size, s.heap, vx_MQ below (va_Qd post (fun u => gB G (W1 u) (va_A W0 s.heap.size)) (va_A W0 s.heap.size)) (vx_X px (xB G EX WX (va_A W0 s.heap.size)) (va_A W0 s.heap.size)) av.toArray s rm.cells rm.slots (va_A W0 s.heap.size)) rfl
    ⟨B.exec, B.bytes, hml, hown, hts, hK, hA, rfl, rfl, hE⟩ ⟨B.returns, B.notSynchronized, htab, hst, hxT, rfl⟩ (name_of_methodNamed B.named B.method).1 s.heap [] _ hP hD va_S.rf (hml ▸ hl)
section FRTD
variable {S SX : Type} {l : Launch} {y : MethodName} {ws : List Cond} {rm : Room} {av : List Value} {G : gT} {W0 wc wr : va_W} {w1 W1 : S → va_W} {w2 W2 : SX → va_W} {px : SX → Prop} {EX : SX → String} {mc ms : Nat}
theorem frt_d {post : UInt64 → S → Prop} (hM : ∀ sz : Nat, vx_Met l y ws rm (va_Pc av (gX G wc sz)) (va_Qd post (fun u => gB G (w1 u) (va_A wc sz)) (va_A wc sz)) (vx_X px (xB G EX w2 (va_A wc sz)) (va_A wc sz)) mc ms (va_A wc sz)) (h0 : W0.Perm (wc ++ wr)) (h1 : ∀ u, (w1 u ++ wr).Perm (W1 u)) (h2 : ∀ u, (w2 u ++ wr).Perm (W2 u)) :
    ∀ sz : Nat, vx_Met l y ws rm (va_Pc av (gX G W0 sz)) (va_Qd post (fun u => gB G (W1 u) (va_A W0 sz)) (va_A W0 sz)) (vx_X px (xB G EX W2 (va_A W0 sz)) (va_A W0 sz)) mc ms (va_A W0 sz) := by
  intro sz p e ha hc hk s m args below hf happ hP hKt
  obtain ⟨n, o, g1, g2, g3, hq⟩ := hM sz p e ha hc hk s m args below hf happ ⟨hP.1, fr_sub h0 hP.2.1, hP.2.2⟩ trivial
  refine ⟨n, o, g1, g2, g3, ?_⟩
  rcases hq with ⟨⟨⟨r, u, ho, hpost, hB⟩, hF⟩, L, hFE, hL⟩ | ⟨q9, ho, E, ce, L, ⟨u, hp, ⟨hE, hB⟩, hF⟩, r1, r2, r3, r4, r5, hL⟩
  · obtain ⟨hB2, hF2⟩ := fr_go h0 (h1 u) hP.2.1 hB hF
    exact Or.inl ⟨⟨⟨r, u, ho, hpost, hB2⟩, hF2⟩, L, hFE, fun q hq => fr_mono h0 _ (hL q hq)⟩
  · obtain ⟨hB2, hF2⟩ := fr_go h0 (h2 u) hP.2.1 hB hF
    exact Or.inr ⟨q9, ho, E, ce, L, ⟨u, hp, ⟨hE, hB2⟩, hF2⟩, r1, r2, r3, r4, r5, fun q hq => fr_mono h0 _ (hL q hq)⟩
end FRTD

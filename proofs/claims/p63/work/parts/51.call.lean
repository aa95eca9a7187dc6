theorem J_callTv {S SX SY : Type} {x : JX} {G : gT} {R : Room} {cc : ByteArray} {w0 : Cond} {own : String} {nL : Nat} {ws : va_W} {k n mc ms : Nat} {lv : List (Nat × Value)} {st rest : List Value} {pc : Nat} {C : String} {idx maxLY na : Nat} {y : MethodName} {ccY : ByteArray} {rmY : Room} {As : List Value} {b : Nat}
    {Qc : Array Value → State → Outcome → State → Prop} {px : SX → Prop} {EX : SX → String} {WX : SX → va_W} {py : SY → Prop} {EY : SY → String} {WY : SY → va_W} {post : S → Prop} {W1 : S → va_W} {T : u_T} {N : Nat} {fs : List Value} (hC : JC x G R cc w0 own nL) (hT : JT x G Qc px EX WX mc ms) (hd : decode cc pc = .ok (.invokevirtual idx, 3)) (hl : Cond.methodLink own idx y ∈ GW) (hY : YV y C ccY maxLY none na)
    (hM : TV (jl x) y ccY maxLY rmY (.ref b :: As) G ws post W1 py EY WY)
    (hst : st = As.reverse ++ .ref b :: rest) (hna : As.length = na) (q ci : Nat) (hq : ws[q]? = some (b, .inr (ci, fs))) (hc : vwCl[ci]? = some (C, T, N))
    (hR : rmY.frames + 1 ≤ R.frames ∧ 8 + (maxLY + 11) + rmY.locals ≤ R.locals) (hcat : (rest.map fun v => v.category).sum ≤ 8) (hk : k + rmY.cells ≤ R.cells) (hn : n + rmY.slots ≤ R.slots) (hmc : k + rmY.cells ≤ mc) (hms : n + rmY.slots ≤ ms)
    (hx : ∀ u : SY, py u → ∃ u' : SX, px u' ∧ EX u' = EY u ∧ WX u' = WY u)
    (kk : ∀ (u : S), post u → J x G (W1 u) (k + rmY.cells) (n + rmY.slots) lv (rest) (pc + 3)) : J x G ws k n lv st pc := by
  intro H locs ls hP hD hS hL
  have hK := hC.2.2.2.2.2.1
  have hRR : jR x = R := hC.2.2.2.2.2.2.2.1
  have hE := hC.2.2.2.2.2.2.2.2.2
  have h9 := hC.2.2.2.2.2.2.2.2.1
  have hF := va_A_in hD hS hC.2.2.2.2.2.2.1
  refine vx_callv (vx_runV (As := As) (rest := rest) ⟨hC.1, hC.2.1, hC.2.2.1, hC.2.2.2.1, hC.2.2.2.2.1⟩ (hM H.size) (cwV na hC.2.2.2.2.1 (gwV hl hY.1 hY.2.1 hY.2.2.1 hY.2.2.2.1) rfl rfl rfl hY.2.2.2.2 (by rw [hRR]; exact hR)) ⟨gX_blind _ _ _ _, va_recv hK hP hc hq, fun U hU hW => ⟨rfl, ⟨by rw [hU], by rw [hU]; exact hP, va_K.moved hW.alike hK, hD.weaken (fun _ _ _ _ => trivial), hE.step hW (by rw [hU]; intro q hq hn; rw [h9] at hS; exact hS.2.1 q hq hn) hF⟩, hT.2.2.2.1.warm hW⟩⟩ rfl hna (hL.1.trans hC.2.2.1) hst (lv_room hcat) hd (by rw [hRR]; exact ⟨hk, hn⟩)) hS (fun q _ h => hF q h) hF (fun q _ h => hF q h)
    (fun E ce q9 u t H1 locs1 ht hvm hp hB hz hk1 hS1 hce hcv hcl => ?_) (fun u t H1 locs1 ht hvm hw hB hz hk1 hS1 => ?_)
  · obtain ⟨hE1, hP1, hK1, hD1⟩ := hB
    obtain ⟨u', hp', he', hw'⟩ := hx u hp
    obtain ⟨hlk, htab, hst9, hxT, hQ⟩ := hT
    rw [hQ]
    rw [h9] at hS1
    refine vx_out (fun z hz => (htab z hz).elim) hlk hce hcv hcl (fun t9 ht9 hv9 => ⟨u', hp', ⟨hE1.trans he'.symm, ?_, va_K.moved hv9 hK, ?_⟩, hS1.F ht9⟩) hS1.2.2 hmc hms
    · rw [ht9, hw', ← ht]; exact hP1
    · rw [hw']; exact hD1.weaken (fun _ _ _ h => hF _ h)
  · obtain ⟨hP1, hK1, hD1⟩ := hB
    rw [ht] at hP1
    exact kk u hw H1 locs1 ls hP1 (hD1.weaken (fun _ _ _ h => hF _ h)) hS1 hL

theorem J_callTi {S SX SY : Type} {x : JX} {G : gT} {R : Room} {cc : ByteArray} {w0 : Cond} {own : String} {nL : Nat} {ws : va_W} {k n mc ms : Nat} {lv : List (Nat × Value)} {st rest : List Value} {pc : Nat} {C : String} {idx maxLY na : Nat} {y : MethodName} {ccY : ByteArray} {ret : Option FieldType} {rmY : Room} {As : List Value} {b : Nat}
    {Qc : Array Value → State → Outcome → State → Prop} {px : SX → Prop} {EX : SX → String} {WX : SX → va_W} {py : SY → Prop} {EY : SY → String} {WY : SY → va_W} {post : Int32 → S → Prop} {W1 : S → va_W} {T : u_T} {N : Nat} {fs : List Value} (hC : JC x G R cc w0 own nL) (hT : JT x G Qc px EX WX mc ms) (hd : decode cc pc = .ok (.invokevirtual idx, 3)) (hl : Cond.methodLink own idx y ∈ GW) (hY : YV y C ccY maxLY ret na)
    (hM : TI (jl x) y ccY maxLY ret rmY (.ref b :: As) G ws post W1 py EY WY)
    (hst : st = As.reverse ++ .ref b :: rest) (hna : As.length = na) (q ci : Nat) (hq : ws[q]? = some (b, .inr (ci, fs))) (hc : vwCl[ci]? = some (C, T, N))
    (hR : rmY.frames + 1 ≤ R.frames ∧ 8 + (maxLY + 11) + rmY.locals ≤ R.locals) (hcat : (rest.map fun v => v.category).sum ≤ 8) (hk : k + rmY.cells ≤ R.cells) (hn : n + rmY.slots ≤ R.slots) (hmc : k + rmY.cells ≤ mc) (hms : n + rmY.slots ≤ ms)
    (hx : ∀ u : SY, py u → ∃ u' : SX, px u' ∧ EX u' = EY u ∧ WX u' = WY u)
    (kk : ∀ (r : Int32) (u : S), post r u → J x G (W1 u) (k + rmY.cells) (n + rmY.slots) lv (.int r :: rest) (pc + 3)) : J x G ws k n lv st pc := by
  intro H locs ls hP hD hS hL
  have hK := hC.2.2.2.2.2.1
  have hRR : jR x = R := hC.2.2.2.2.2.2.2.1
  have hE := hC.2.2.2.2.2.2.2.2.2
  have h9 := hC.2.2.2.2.2.2.2.2.1
  have hF := va_A_in hD hS hC.2.2.2.2.2.2.1
  refine vx_calli (vx_runV (As := As) (rest := rest) ⟨hC.1, hC.2.1, hC.2.2.1, hC.2.2.2.1, hC.2.2.2.2.1⟩ (hM H.size) (cwV na hC.2.2.2.2.1 (gwV hl hY.1 hY.2.1 hY.2.2.1 hY.2.2.2.1) rfl rfl rfl hY.2.2.2.2 (by rw [hRR]; exact hR)) ⟨gX_blind _ _ _ _, va_recv hK hP hc hq, fun U hU hW => ⟨rfl, ⟨by rw [hU], by rw [hU]; exact hP, va_K.moved hW.alike hK, hD.weaken (fun _ _ _ _ => trivial), hE.step hW (by rw [hU]; intro q hq hn; rw [h9] at hS; exact hS.2.1 q hq hn) hF⟩, hT.2.2.2.1.warm hW⟩⟩ rfl hna (hL.1.trans hC.2.2.1) hst (lv_room hcat) hd (by rw [hRR]; exact ⟨hk, hn⟩)) hS (fun q _ h => hF q h) hF (fun q _ h => hF q h)
    (fun E ce q9 u t H1 locs1 ht hvm hp hB hz hk1 hS1 hce hcv hcl => ?_) (fun r u t H1 locs1 ht hvm hw hB hz hk1 hS1 => ?_)
  · obtain ⟨hE1, hP1, hK1, hD1⟩ := hB
    obtain ⟨u', hp', he', hw'⟩ := hx u hp
    obtain ⟨hlk, htab, hst9, hxT, hQ⟩ := hT
    rw [hQ]
    rw [h9] at hS1
    refine vx_out (fun z hz => (htab z hz).elim) hlk hce hcv hcl (fun t9 ht9 hv9 => ⟨u', hp', ⟨hE1.trans he'.symm, ?_, va_K.moved hv9 hK, ?_⟩, hS1.F ht9⟩) hS1.2.2 hmc hms
    · rw [ht9, hw', ← ht]; exact hP1
    · rw [hw']; exact hD1.weaken (fun _ _ _ h => hF _ h)
  · obtain ⟨hP1, hK1, hD1⟩ := hB
    rw [ht] at hP1
    exact kk r u hw H1 locs1 ls hP1 (hD1.weaken (fun _ _ _ h => hF _ h)) hS1 hL

section FRT
variable {S SX : Type} {l : Launch} {y : MethodName} {ws : List Cond} {rm : Room} {av : List Value} {G : gT} {W0 wc wr : va_W} {w1 W1 : S → va_W} {w2 W2 : SX → va_W} {px : SX → Prop} {EX : SX → String} {mc ms : Nat}
/-- the frame rule for methods that may throw -/
theorem frt_i {post : Int32 → S → Prop} (hM : ∀ sz : Nat, vx_Met l y ws rm (va_Pc av (gX G wc sz)) (va_Qi post (fun u => gB G (w1 u) (va_A wc sz)) (va_A wc sz)) (vx_X px (xB G EX w2 (va_A wc sz)) (va_A wc sz)) mc ms (va_A wc sz)) (h0 : W0.Perm (wc ++ wr)) (h1 : ∀ u, (w1 u ++ wr).Perm (W1 u)) (h2 : ∀ u, (w2 u ++ wr).Perm (W2 u)) :
    ∀ sz : Nat, vx_Met l y ws rm (va_Pc av (gX G W0 sz)) (va_Qi post (fun u => gB G (W1 u) (va_A W0 sz)) (va_A W0 sz)) (vx_X px (xB G EX W2 (va_A W0 sz)) (va_A W0 sz)) mc ms (va_A W0 sz) := by
  intro sz p e ha hc hk s m args below hf happ hP hKt
  obtain ⟨n, o, g1, g2, g3, hq⟩ := hM sz p e ha hc hk s m args below hf happ ⟨hP.1, fr_sub h0 hP.2.1, hP.2.2⟩ trivial
  refine ⟨n, o, g1, g2, g3, ?_⟩
  rcases hq with ⟨⟨⟨r, u, ho, hpost, hB⟩, hF⟩, L, hFE, hL⟩ | ⟨q9, ho, E, ce, L, ⟨u, hp, ⟨hE, hB⟩, hF⟩, r1, r2, r3, r4, r5, hL⟩
  · obtain ⟨hB2, hF2⟩ := fr_go h0 (h1 u) hP.2.1 hB hF
    exact Or.inl ⟨⟨⟨r, u, ho, hpost, hB2⟩, hF2⟩, L, hFE, fun q hq => fr_mono h0 _ (hL q hq)⟩
  · obtain ⟨hB2, hF2⟩ := fr_go h0 (h2 u) hP.2.1 hB hF
    exact Or.inr ⟨q9, ho, E, ce, L, ⟨u, hp, ⟨hE, hB2⟩, hF2⟩, r1, r2, r3, r4, r5, fun q hq => fr_mono h0 _ (hL q hq)⟩
theorem frt_v {post : S → Prop} (hM : ∀ sz : Nat, vx_Met l y ws rm (va_Pc av (gX G wc sz)) (va_Qv post (fun u => gB G (w1 u) (va_A wc sz)) (va_A wc sz)) (vx_X px (xB G EX w2 (va_A wc sz)) (va_A wc sz)) mc ms (va_A wc sz)) (h0 : W0.Perm (wc ++ wr)) (h1 : ∀ u, (w1 u ++ wr).Perm (W1 u)) (h2 : ∀ u, (w2 u ++ wr).Perm (W2 u)) :
    ∀ sz : Nat, vx_Met l y ws rm (va_Pc av (gX G W0 sz)) (va_Qv post (fun u => gB G (W1 u) (va_A W0 sz)) (va_A W0 sz)) (vx_X px (xB G EX W2 (va_A W0 sz)) (va_A W0 sz)) mc ms (va_A W0 sz) := by
  intro sz p e ha hc hk s m args below hf happ hP hKt
  obtain ⟨n, o, g1, g2, g3, hq⟩ := hM sz p e ha hc hk s m args below hf happ ⟨hP.1, fr_sub h0 hP.2.1, hP.2.2⟩ trivial
  refine ⟨n, o, g1, g2, g3, ?_⟩
  rcases hq with ⟨⟨⟨u, ho, hpost, hB⟩, hF⟩, L, hFE, hL⟩ | ⟨q9, ho, E, ce, L, ⟨u, hp, ⟨hE, hB⟩, hF⟩, r1, r2, r3, r4, r5, hL⟩
  · obtain ⟨hB2, hF2⟩ := fr_go h0 (h1 u) hP.2.1 hB hF
    exact Or.inl ⟨⟨⟨u, ho, hpost, hB2⟩, hF2⟩, L, hFE, fun q hq => fr_mono h0 _ (hL q hq)⟩
  · obtain ⟨hB2, hF2⟩ := fr_go h0 (h2 u) hP.2.1 hB hF
    exact Or.inr ⟨q9, ho, E, ce, L, ⟨u, hp, ⟨hE, hB2⟩, hF2⟩, r1, r2, r3, r4, r5, fun q hq => fr_mono h0 _ (hL q hq)⟩
end FRT


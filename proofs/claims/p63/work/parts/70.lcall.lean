/-- the frame rule for wrappers -/
theorem frw_i {S : Type} {l : Launch} {y : MethodName} {cc : ByteArray} {maxL : Nat} {hh : List (Nat × Nat × Nat × Nat)} {rm : Room} {av : List Value} {G : gT} {W0 wc wr : va_W} {w1 W1 : S → va_W} {post : Int32 → S → Prop} (hM : WX l y cc maxL hh rm av G wc post w1) (h0 : W0.Perm (wc ++ wr)) (h1 : ∀ u, (w1 u ++ wr).Perm (W1 u)) : WX l y cc maxL hh rm av G W0 post W1 := by
  intro sz p e ha hc hk s m args below hf happ hP hKt
  obtain ⟨n, o, g1, g2, g3, hq⟩ := hM sz p e ha hc hk s m args below hf happ ⟨hP.1, ⟨fr_sub h0 hP.2.1.1, hP.2.1.2⟩, hP.2.2⟩ trivial
  refine ⟨n, o, g1, g2, g3, ?_⟩
  rcases hq with ⟨⟨⟨r, u, ho, hpost, hB⟩, hF⟩, L, hFE, hL⟩ | ⟨q9, ho, E, ce, L, ⟨u, hp, ⟨hE, hB⟩, hF⟩, r1, r2, r3, r4, r5, hL⟩
  · obtain ⟨hB2, hF2⟩ := fr_go h0 (h1 u) hP.2.1.1 hB hF
    exact Or.inl ⟨⟨⟨r, u, ho, hpost, hB2⟩, hF2⟩, L, hFE, fun q hq => fr_mono h0 _ (hL q hq)⟩
  · exact hp.elim
/-- what the tables say of a wrapper -/
def YW (y : MethodName) (cc : ByteArray) (maxL : Nat) (hh : List (Nat × Nat × Nat × Nat)) (na : Nat) : Prop := Cond.static y ∈ GW ∧ Cond.initialized y.cls ∈ GW ∧ Cond.codeWith y cc maxL (some .int) hh ∈ GW ∧ (y.cls ≠ "java/lang/invoke/MethodHandle" ∧ y.cls ≠ "java/lang/invoke/VarHandle" ∧ (parseMethodDescriptor y.desc).map (fun d => d.parameters.length) = some na)
/-- a wrapper's call -/
theorem J_callW {S : Type} {x : JX} {G : gT} {R : Room} {cc : ByteArray} {w0 : Cond} {own : String} {nL : Nat} {ws : va_W} {k n : Nat} {lv : List (Nat × Value)} {st rest : List Value} {pc : Nat} {idx maxLY na : Nat} {y : MethodName} {ccY : ByteArray} {hh : List (Nat × Nat × Nat × Nat)} {rmY : Room} {As : List Value} {post : Int32 → S → Prop} {W1 : S → va_W} (hC : JC x G R cc w0 own nL) (hxT : xT (js x)) (hxN : xN (js x)) (hd : decode cc pc = .ok (.invokestatic idx, 3)) (hl : Cond.methodLink own idx y ∈ GW) (hY : YW y ccY maxLY hh na)
    (hM : WX (jl x) y ccY maxLY hh rmY As G ws post W1)
    (hst : st = As.reverse ++ rest) (hna : As.length = na) (hR : rmY.frames + 1 ≤ R.frames ∧ 8 + (maxLY + 11) + rmY.locals ≤ R.locals) (hcat : (rest.map fun v => v.category).sum ≤ 8) (hk : k + rmY.cells ≤ R.cells) (hn : n + rmY.slots ≤ R.slots)
    (kk : ∀ (r : Int32) (u : S), post r u → J x G (W1 u) (k + rmY.cells) (n + rmY.slots) lv (.int r :: rest) (pc + 3)) : J x G ws k n lv st pc := by
  intro H locs ls hP hD hS hL
  have hK := hC.2.2.2.2.2.1
  have hRR : jR x = R := hC.2.2.2.2.2.2.2.1
  have hE := hC.2.2.2.2.2.2.2.2.2
  have h9 := hC.2.2.2.2.2.2.2.2.1
  have hF := va_A_in hD hS hC.2.2.2.2.2.2.1
  have ht0 := hC.2.2.2.2.1
  have hG : GoodIn (w0 :: GW) (va_wsS own idx y (Cond.codeWith y ccY maxLY (some .int) hh :: GW)) := by
    have K : ∀ w ∈ va_wsS own idx y (Cond.codeWith y ccY maxLY (some .int) hh :: GW), w ∈ GW := by
      intro w hw
      simp only [va_wsS, List.mem_append, List.mem_cons, List.not_mem_nil, or_false] at hw
      rcases hw with (rfl | rfl | rfl) | rfl | hw
      · exact hl
      · exact hY.1
      · exact hY.2.1
      · exact hY.2.2.1
      · exact hw
    exact fun w hw => ⟨List.mem_cons_of_mem _ (K w hw), gw_good w (K w hw)⟩
  refine vx_calli (vx_runSX (As := As) (rest := rest) ⟨hC.1, hC.2.1, hC.2.2.1, hC.2.2.2.1, hC.2.2.2.2.1⟩ (hM H.size) (vx_cwSW na ht0 hG rfl rfl rfl hY.2.2.2 (by rw [hRR]; exact hR)) ⟨gY_blind _ _ _ _, fun U hU hW => ⟨rfl, ⟨⟨by rw [hU], by rw [hU]; exact hP, va_K.moved hW.alike hK, hD.weaken (fun _ _ _ _ => trivial), hE.step hW (by rw [hU]; intro q hq hn; rw [h9] at hS; exact hS.2.1 q hq hn) hF⟩, hxT.warm hW⟩, hxN.alike hW.alike⟩⟩ rfl hna (hL.1.trans hC.2.2.1) hst (lv_room hcat) hd (by rw [hRR]; exact ⟨hk, hn⟩)) hS (fun q _ h => hF q h) hF (fun q _ h => hF q h)
    (fun E ce q9 u t H1 locs1 ht hvm hp hB hz hk1 hS1 hce hcv hcl => hp.elim) (fun r u t H1 locs1 ht hvm hw hB hz hk1 hS1 => ?_)
  obtain ⟨hP1, hK1, hD1⟩ := hB
  rw [ht] at hP1
  exact kk r u hw H1 locs1 ls hP1 (hD1.weaken (fun _ _ _ h => hF _ h)) hS1 hL
-- the parts of an office
abbrev oS (G : gT) (u : Nat → Nat → Nat) (z : OS) : va_W := oW G (u 4 0) (oR u) (u 0) (zS z) (zc z) (zp z)
abbrev oH (G : gT) (u : Nat → Nat → Nat) (z : OS) : va_W := hiW G (u 4 1) (u 4 2) (fun i => u (5 + i)) (zn z) (zk z) (zT z)
abbrev oD (G : gT) (u : Nat → Nat → Nat) (z : OS) : va_W := stW G (u 1) (zD z)
abbrev oI (G : gT) (u : Nat → Nat → Nat) (z : OS) : va_W := byQ G (u 2) (zi z)
abbrev oO (G : gT) (u : Nat → Nat → Nat) (z : OS) : va_W := byQ G (u 3) (zo z)
abbrev oL (G : gT) (u : Nat → Nat → Nat) (z : OS) : va_W := slW G (u 4 3) (u 4 4) (fun i => u (13 + i)) (zL z) (zf z)
theorem pf_o (G : gT) (u : Nat → Nat → Nat) (z : OS) : (ofW G u z).Perm ((oS G u z) ++ (oH G u z ++ (oD G u z ++ (oI G u z ++ (oO G u z ++ oL G u z))))) := permS (fun e => by simp only [ofW, ldW, oS, oH, oD, oI, oO, oL, List.map_append, List.sum_append] <;> omega)
theorem pf_oh (G : gT) (u : Nat → Nat → Nat) (z : OS) : (ofW G u z).Perm ((oS G u z ++ oH G u z) ++ (oD G u z ++ (oI G u z ++ (oO G u z ++ oL G u z)))) := permS (fun e => by simp only [ofW, ldW, oS, oH, oD, oI, oO, oL, List.map_append, List.sum_append] <;> omega)
theorem pf_od (G : gT) (u : Nat → Nat → Nat) (z : OS) : (ofW G u z).Perm ((oS G u z ++ oD G u z) ++ (oH G u z ++ (oI G u z ++ (oO G u z ++ oL G u z)))) := permS (fun e => by simp only [ofW, ldW, oS, oH, oD, oI, oO, oL, List.map_append, List.sum_append] <;> omega)
theorem pf_oi (G : gT) (u : Nat → Nat → Nat) (z : OS) : (ofW G u z).Perm ((oS G u z ++ oI G u z) ++ (oH G u z ++ (oD G u z ++ (oO G u z ++ oL G u z)))) := permS (fun e => by simp only [ofW, ldW, oS, oH, oD, oI, oO, oL, List.map_append, List.sum_append] <;> omega)
theorem pf_oo (G : gT) (u : Nat → Nat → Nat) (z : OS) : (ofW G u z).Perm ((oS G u z ++ oO G u z) ++ (oH G u z ++ (oD G u z ++ (oI G u z ++ oL G u z)))) := permS (fun e => by simp only [ofW, ldW, oS, oH, oD, oI, oO, oL, List.map_append, List.sum_append] <;> omega)
theorem pf_ol (G : gT) (u : Nat → Nat → Nat) (z : OS) : (ofW G u z).Perm ((oS G u z ++ oL G u z) ++ (oH G u z ++ (oD G u z ++ (oI G u z ++ oO G u z)))) := permS (fun e => by simp only [ofW, ldW, oS, oH, oD, oI, oO, oL, List.map_append, List.sum_append] <;> omega)
theorem pf_ohl (G : gT) (u : Nat → Nat → Nat) (z : OS) : (ofW G u z).Perm ((oS G u z ++ (oH G u z ++ oL G u z)) ++ (oD G u z ++ (oI G u z ++ oO G u z))) := permS (fun e => by simp only [ofW, ldW, oS, oH, oD, oI, oO, oL, List.map_append, List.sum_append] <;> omega)
theorem pf_ld (G : gT) (u : Nat → Nat → Nat) (z : OS) : (ofW G u z).Perm ((ldW G (u 4 0) (oR u) (u 0) (u 1) (u 2) (zS z) (zD z) (zc z) (zp z) (oH G u z) (zi z)) ++ (oO G u z ++ oL G u z)) := permS (fun e => by simp only [ofW, ldW, oS, oH, oD, oI, oO, oL, List.map_append, List.sum_append] <;> omega)
theorem of_0 (G : gT) (u : Nat → Nat → Nat) (z : OS) : (ofW G u z)[0]? = some (u 4 0, .inr (10, [.ref (oR u 0), .ref (oR u 1), .ref (u 0 0), .ref (oR u 2), .ref (oR u 3), .ref (oR u 4), .ref (oR u 5), .int (zc z), .int (zp z)])) := rfl
section LIFT
variable {S : Type} {l : Launch} {y : MethodName} {cc : ByteArray} {maxL : Nat} {ret : Option FieldType} {rm : Room} {av : List Value} {G : gT} {ol od : Nat} {u : Nat → Nat → Nat} {m : Nat → Nat} {z : OS} {M : CT} {f : Nat → Int64} {g : Nat → UInt64}
end LIFT
section LIFTW
variable {S SY : Type} {l : Launch} {y : MethodName} {cc : ByteArray} {maxL : Nat} {hh : List (Nat × Nat × Nat × Nat)} {rm : Room} {av : List Value} {G : gT} {ol od : Nat} {u : Nat → Nat → Nat} {m : Nat → Nat} {z : OS} {M : CT} {f : Nat → Int64} {g : Nat → UInt64}
/-- the office behind a wrapper, and the cell -/
def zW {A : Type} (z1 : S → OS) (z2 : SY → OS) : (A × S) ⊕ SY → OS := fun v => match v with | .inl v => z1 v.2 | .inr v => z2 v
def fW (f : Nat → Int64) : (Int32 × S) ⊕ SY → Nat → Int64 := fun v => match v with | .inl v => vp_updL f 0 v.1.toInt64 | .inr _ => f
def fWb (f : Nat → Int64) : (Int32 × S) ⊕ SY → Nat → Int64 := fun v => match v with | .inl v => vp_updL f 0 (if v.1 = 0 then 0 else 1) | .inr _ => f
def gWd (g : Nat → UInt64) : (UInt64 × S) ⊕ SY → Nat → UInt64 := fun v => match v with | .inl v => vf_upd g 0 v.1 | .inr _ => g
end LIFTW

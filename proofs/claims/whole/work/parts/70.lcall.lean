/-- the frame rule for wrappers -/
theorem frw_i {S : Type} {l : Launch} {y : MethodName} {cc : ByteArray} {maxL : Nat} {hh : List (Nat × Nat × Nat × Nat)} {rm : Room} {av : List Value} {G : gT} {W0 wc wr : va_W} {w1 W1 : S → va_W} {post : Int32 → S → Prop} (hM : WX l y cc maxL hh rm av G wc post w1) (h0 : W0.Perm (wc ++ wr)) (h1 : ∀ u, (w1 u ++ wr).Perm (W1 u)) : WX l y cc maxL hh rm av G W0 post W1 := by
  intro sz p e ha hc hk s m args below hf happ hP hKt
  obtain ⟨n, o, g1, g2, g3, hq⟩ := hM sz p e ha hc hk s m args below hf happ ⟨hP.1, ⟨fr_sub h0 hP.2.1.1, hP.2.1.2⟩, hP.2.2⟩ trivial
  refine ⟨n, o, g1, g2, g3, ?_⟩
  rcases hq with ⟨⟨⟨r, u, ho, hpost, hB⟩, hF⟩, L, hFE, hL⟩ | ⟨q9, ho, E, ce, L, ⟨u, hp, ⟨hE, hB⟩, hF⟩, r1, r2, r3, r4, r5, hL⟩
  · obtain ⟨hB2, hF2⟩ := fr_go h0 (h1 u) hP.2.1.1 hB hF
    exact Or.inl ⟨⟨⟨r, u, ho, hpost, hB2⟩, hF2⟩, L, hFE, fun q hq => fr_mono h0 _ (hL q hq)⟩
  · exact hp.elim
/-- what the tables say of a wrapper -/
def YW (y : MethodName) (cc : ByteArray) (maxL : Nat) (hh : List (Nat × Nat × Nat × Nat)) (na : Nat) : Prop := Cond.static y ∈ GW ∧ Cond.initialized y.cls ∈ GW ∧ Cond.codeWith y cc maxL (some .int) hh ∈ GW ∧ (y.cls ≠ "java/lang/invoke/MethodHandle" ∧ y.cls ≠ "java/lang/invoke/VarHandle" ∧ (parseMethodDescriptor y.desc).map (fun d => d.parameters.length) = some na)
/-- a wrapper's call -/
theorem J_callW {S : Type} {x : JX} {G : gT} {R : Room} {cc : ByteArray} {w0 : Cond} {own : String} {nL : Nat} {ws : va_W} {k n : Nat} {lv : List (Nat × Value)} {st rest : List Value} {pc : Nat} {idx maxLY na : Nat} {y : MethodName} {ccY : ByteArray} {hh : List (Nat × Nat × Nat × Nat)} {rmY : Room} {As : List Value} {post : Int32 → S → Prop} {W1 : S → va_W} (hC : JC x G R cc w0 own nL) (hxT : xT (js x)) (hxN : xN (js x)) (hd : decode cc pc = .ok (.invokestatic idx, 3)) (hl : Cond.methodLink own idx y ∈ GW) (hY : YW y ccY maxLY hh na)
    (hM : WX (jl x) y ccY maxLY hh rmY As G ws post W1)
    (hst : st = As.reverse ++ rest) (hna : As.length = na) (hR : rmY.frames + 1 ≤ R.frames ∧ 8 + (maxLY + 11) + rmY.locals ≤ R.locals) (hcat : (rest.map fun v => v.category).sum ≤ 8) (hk : k + rmY.cells ≤ R.cells) (hn : n + rmY.slots ≤ R.slots)
    (kk : ∀ (r : Int32) (u : S), post r u → J x G (W1 u) (k + rmY.cells) (n + rmY.slots) lv (.int r :: rest) (pc + 3)) : J x G ws k n lv st pc := by
  intro H locs ls hP hD hS hL
  have hK := hC.2.2.2.2.2.1
  have hRR : jR x = R := hC.2.2.2.2.2.2.2.1
  have hE := hC.2.2.2.2.2.2.2.2.2
  have h9 := hC.2.2.2.2.2.2.2.2.1
  have hF := va_A_in hD hS hC.2.2.2.2.2.2.1
  have ht0 := hC.2.2.2.2.1
  have hG : GoodIn (w0 :: GW) (va_wsS own idx y (Cond.codeWith y ccY maxLY (some .int) hh :: GW)) := by
    have K : ∀ w ∈ va_wsS own idx y (Cond.codeWith y ccY maxLY (some .int) hh :: GW), w ∈ GW := by
      intro w hw
      simp only [va_wsS, List.mem_append, List.mem_cons, List.not_mem_nil, or_false] at hw
      rcases hw with (rfl | rfl | rfl) | rfl | hw
      · exact hl
      · exact hY.1
      · exact hY.2.1
      · exact hY.2.2.1
      · exact hw
    exact fun w hw => ⟨List.mem_cons_of_mem _ (K w hw), gw_good w (K w hw)⟩
  refine vx_calli (vx_runSX (As := As) (rest := rest) ⟨hC.1, hC.2.1, hC.2.2.1, hC.2.2.2.1, hC.2.2.2.2.1⟩ (hM H.size) (vx_cwSW na ht0 hG rfl rfl rfl hY.2.2.2 (by rw [hRR]; exact hR)) ⟨gY_blind _ _ _ _, fun U hU hW => ⟨rfl, ⟨⟨by rw [hU], by rw [hU]; exact hP, va_K.moved hW.alike hK, hD.weaken (fun _ _ _ _ => trivial), hE.step hW (by rw [hU]; intro q hq hn; rw [h9] at hS; exact hS.2.1 q hq hn) hF⟩, hxT.warm hW⟩, hxN.alike hW.alike⟩⟩ rfl hna (hL.1.trans hC.2.2.1) hst (lv_room hcat) hd (by rw [hRR]; exact ⟨hk, hn⟩)) hS (fun q _ h => hF q h) hF (fun q _ h => hF q h)
    (fun E ce q9 u t H1 locs1 ht hvm hp hB hz hk1 hS1 hce hcv hcl => hp.elim) (fun r u t H1 locs1 ht hvm hw hB hz hk1 hS1 => ?_)
  obtain ⟨hP1, hK1, hD1⟩ := hB
  rw [ht] at hP1
  exact kk r u hw H1 locs1 ls hP1 (hD1.weaken (fun _ _ _ h => hF _ h)) hS1 hL
-- the parts of an office
abbrev oS (G : gT) (u : Nat → Nat → Nat) (z : OS) : va_W := oW G (u 4 0) (oR u) (u 0) (zS z) (zc z) (zp z)
abbrev oH (G : gT) (u : Nat → Nat → Nat) (z : OS) : va_W := hiW G (u 4 1) (u 4 2) (fun i => u (5 + i)) (zn z) (zk z) (zT z)
abbrev oD (G : gT) (u : Nat → Nat → Nat) (z : OS) : va_W := stW G (u 1) (zD z)
abbrev oI (G : gT) (u : Nat → Nat → Nat) (z : OS) : va_W := byQ G (u 2) (zi z)
abbrev oO (G : gT) (u : Nat → Nat → Nat) (z : OS) : va_W := byQ G (u 3) (zo z)
abbrev oL (G : gT) (u : Nat → Nat → Nat) (z : OS) : va_W := slW G (u 4 3) (u 4 4) (fun i => u (13 + i)) (zL z) (zf z)
theorem pf_o (G : gT) (u : Nat → Nat → Nat) (z : OS) : (ofW G u z).Perm ((oS G u z) ++ (oH G u z ++ (oD G u z ++ (oI G u z ++ (oO G u z ++ oL G u z))))) := permS (fun e => by simp only [ofW, ldW, oS, oH, oD, oI, oO, oL, List.map_append, List.sum_append] <;> omega)
theorem pf_oh (G : gT) (u : Nat → Nat → Nat) (z : OS) : (ofW G u z).Perm ((oS G u z ++ oH G u z) ++ (oD G u z ++ (oI G u z ++ (oO G u z ++ oL G u z)))) := permS (fun e => by simp only [ofW, ldW, oS, oH, oD, oI, oO, oL, List.map_append, List.sum_append] <;> omega)
theorem pf_od (G : gT) (u : Nat → Nat → Nat) (z : OS) : (ofW G u z).Perm ((oS G u z ++ oD G u z) ++ (oH G u z ++ (oI G u z ++ (oO G u z ++ oL G u z)))) := permS (fun e => by simp only [ofW, ldW, oS, oH, oD, oI, oO, oL, List.map_append, List.sum_append] <;> omega)
theorem pf_oi (G : gT) (u : Nat → Nat → Nat) (z : OS) : (ofW G u z).Perm ((oS G u z ++ oI G u z) ++ (oH G u z ++ (oD G u z ++ (oO G u z ++ oL G u z)))) := permS (fun e => by simp only [ofW, ldW, oS, oH, oD, oI, oO, oL, List.map_append, List.sum_append] <;> omega)
theorem pf_oo (G : gT) (u : Nat → Nat → Nat) (z : OS) : (ofW G u z).Perm ((oS G u z ++ oO G u z) ++ (oH G u z ++ (oD G u z ++ (oI G u z ++ oL G u z)))) := permS (fun e => by simp only [ofW, ldW, oS, oH, oD, oI, oO, oL, List.map_append, List.sum_append] <;> omega)
theorem pf_ol (G : gT) (u : Nat → Nat → Nat) (z : OS) : (ofW G u z).Perm ((oS G u z ++ oL G u z) ++ (oH G u z ++ (oD G u z ++ (oI G u z ++ oO G u z)))) := permS (fun e => by simp only [ofW, ldW, oS, oH, oD, oI, oO, oL, List.map_append, List.sum_append] <;> omega)
theorem pf_ohl (G : gT) (u : Nat → Nat → Nat) (z : OS) : (ofW G u z).Perm ((oS G u z ++ (oH G u z ++ oL G u z)) ++ (oD G u z ++ (oI G u z ++ oO G u z))) := permS (fun e => by simp only [ofW, ldW, oS, oH, oD, oI, oO, oL, List.map_append, List.sum_append] <;> omega)
theorem pf_ld (G : gT) (u : Nat → Nat → Nat) (z : OS) : (ofW G u z).Perm ((ldW G (u 4 0) (oR u) (u 0) (u 1) (u 2) (zS z) (zD z) (zc z) (zp z) (oH G u z) (zi z)) ++ (oO G u z ++ oL G u z)) := permS (fun e => by simp only [ofW, ldW, oS, oH, oD, oI, oO, oL, List.map_append, List.sum_append] <;> omega)
/-- the law's world: the two cells for answers, the office, the model -/
def LW (G : gT) (ol od : Nat) (u : Nat → Nat → Nat) (m : Nat → Nat) (z : OS) (M : CT) (f : Nat → Int64) (g : Nat → UInt64) : va_W := ((ol, LC G f) :: ofW G u z) ++ ((od, DC G g) :: mdW G m M)
theorem lw_o (G : gT) (ol od : Nat) (u : Nat → Nat → Nat) (m : Nat → Nat) (z : OS) (M : CT) (f : Nat → Int64) (g : Nat → UInt64) : (LW G ol od u m z M f g)[1]? = some (u 4 0, .inr (10, [.ref (oR u 0), .ref (oR u 1), .ref (u 0 0), .ref (oR u 2), .ref (oR u 3), .ref (oR u 4), .ref (oR u 5), .int (zc z), .int (zp z)])) := rfl
theorem of_0 (G : gT) (u : Nat → Nat → Nat) (z : OS) : (ofW G u z)[0]? = some (u 4 0, .inr (10, [.ref (oR u 0), .ref (oR u 1), .ref (u 0 0), .ref (oR u 2), .ref (oR u 3), .ref (oR u 4), .ref (oR u 5), .int (zc z), .int (zp z)])) := rfl
theorem lw_m (G : gT) (ol od : Nat) (u : Nat → Nat → Nat) (m : Nat → Nat) (z : OS) (M : CT) (f : Nat → Int64) (g : Nat → UInt64) : ∃ fs, (LW G ol od u m z M f g)[275]? = some (m 0, .inr (11, fs)) := ⟨_, rfl⟩
theorem pl_m (G : gT) (ol od : Nat) (u : Nat → Nat → Nat) (m : Nat → Nat) (z : OS) (M : CT) (f : Nat → Int64) (g : Nat → UInt64) : (LW G ol od u m z M f g).Perm (mdW G m M ++ (((ol, LC G f) :: ofW G u z) ++ [(od, DC G g)])) := permS (fun e => by simp only [LW, List.map_append, List.map_cons, List.sum_append, List.sum_cons, List.map_nil, List.sum_nil]; omega)
theorem pl_o (G : gT) (ol od : Nat) (u : Nat → Nat → Nat) (m : Nat → Nat) (z : OS) (M : CT) (f : Nat → Int64) (g : Nat → UInt64) : (LW G ol od u m z M f g).Perm (ofW G u z ++ ((ol, LC G f) :: (od, DC G g) :: mdW G m M)) := permS (fun e => by simp only [LW, List.map_append, List.map_cons, List.sum_append, List.sum_cons]; omega)
theorem pl_w (G : gT) (ol od : Nat) (u : Nat → Nat → Nat) (m : Nat → Nat) (z : OS) (M : CT) (f : Nat → Int64) (g : Nat → UInt64) : (LW G ol od u m z M f g).Perm (((ol, LC G f) :: ofW G u z) ++ ((od, DC G g) :: mdW G m M)) := List.Perm.refl _
theorem pl_d (G : gT) (ol od : Nat) (u : Nat → Nat → Nat) (m : Nat → Nat) (z : OS) (M : CT) (f : Nat → Int64) (g : Nat → UInt64) : (LW G ol od u m z M f g).Perm (((od, DC G g) :: ofW G u z) ++ ((ol, LC G f) :: mdW G m M)) := permS (fun e => by simp only [LW, List.map_append, List.map_cons, List.sum_append, List.sum_cons]; omega)
section LIFT
variable {S : Type} {l : Launch} {y : MethodName} {cc : ByteArray} {maxL : Nat} {ret : Option FieldType} {rm : Room} {av : List Value} {G : gT} {ol od : Nat} {u : Nat → Nat → Nat} {m : Nat → Nat} {z : OS} {M : CT} {f : Nat → Int64} {g : Nat → UInt64}
/-- a contract of the model, in the law's world -/
theorem lm_i {post : Int32 → S → Prop} {F : S → CT} (h : MI l y cc maxL ret rm av G (mdW G m M) post (fun v => mdW G m (F v))) : MI l y cc maxL ret rm av G (LW G ol od u m z M f g) post (fun v => LW G ol od u m z (F v) f g) := fr_i h (pl_m G ol od u m z M f g) (fun v => (pl_m G ol od u m z (F v) f g).symm)
theorem lm_d {post : UInt64 → S → Prop} {F : S → CT} (h : MD l y cc maxL rm av G (mdW G m M) post (fun v => mdW G m (F v))) : MD l y cc maxL rm av G (LW G ol od u m z M f g) post (fun v => LW G ol od u m z (F v) f g) := fr_d h (pl_m G ol od u m z M f g) (fun v => (pl_m G ol od u m z (F v) f g).symm)
theorem lm_f {post : UInt32 → S → Prop} {F : S → CT} (h : MF l y cc maxL rm av G (mdW G m M) post (fun v => mdW G m (F v))) : MF l y cc maxL rm av G (LW G ol od u m z M f g) post (fun v => LW G ol od u m z (F v) f g) := fr_f h (pl_m G ol od u m z M f g) (fun v => (pl_m G ol od u m z (F v) f g).symm)
/-- a question of the office that changes nothing -/
theorem lo_i {W wr : va_W} {post : Int32 → S → Prop} (h : MI l y cc maxL ret rm av G W post (fun _ => W)) (hp : (ofW G u z).Perm (W ++ wr)) : MI l y cc maxL ret rm av G (LW G ol od u m z M f g) post (fun _ => LW G ol od u m z M f g) := by
  have hq : (LW G ol od u m z M f g).Perm (W ++ (wr ++ ((ol, LC G f) :: (od, DC G g) :: mdW G m M))) := (pl_o G ol od u m z M f g).trans (by rw [← List.append_assoc]; exact hp.append_right _)
  exact fr_i h hq (fun _ => hq.symm)
theorem lo_d {W wr : va_W} {post : UInt64 → S → Prop} (h : MD l y cc maxL rm av G W post (fun _ => W)) (hp : (ofW G u z).Perm (W ++ wr)) : MD l y cc maxL rm av G (LW G ol od u m z M f g) post (fun _ => LW G ol od u m z M f g) := by
  have hq : (LW G ol od u m z M f g).Perm (W ++ (wr ++ ((ol, LC G f) :: (od, DC G g) :: mdW G m M))) := (pl_o G ol od u m z M f g).trans (by rw [← List.append_assoc]; exact hp.append_right _)
  exact fr_d h hq (fun _ => hq.symm)
theorem lo_f {W wr : va_W} {post : UInt32 → S → Prop} (h : MF l y cc maxL rm av G W post (fun _ => W)) (hp : (ofW G u z).Perm (W ++ wr)) : MF l y cc maxL rm av G (LW G ol od u m z M f g) post (fun _ => LW G ol od u m z M f g) := by
  have hq : (LW G ol od u m z M f g).Perm (W ++ (wr ++ ((ol, LC G f) :: (od, DC G g) :: mdW G m M))) := (pl_o G ol od u m z M f g).trans (by rw [← List.append_assoc]; exact hp.append_right _)
  exact fr_f h hq (fun _ => hq.symm)
end LIFT
section LIFTW
variable {S SY : Type} {l : Launch} {y : MethodName} {cc : ByteArray} {maxL : Nat} {hh : List (Nat × Nat × Nat × Nat)} {rm : Room} {av : List Value} {G : gT} {ol od : Nat} {u : Nat → Nat → Nat} {m : Nat → Nat} {z : OS} {M : CT} {f : Nat → Int64} {g : Nat → UInt64}
/-- the office behind a wrapper, and the cell -/
def zW {A : Type} (z1 : S → OS) (z2 : SY → OS) : (A × S) ⊕ SY → OS := fun v => match v with | .inl v => z1 v.2 | .inr v => z2 v
def fW (f : Nat → Int64) : (Int32 × S) ⊕ SY → Nat → Int64 := fun v => match v with | .inl v => vp_updL f 0 v.1.toInt64 | .inr _ => f
def fWb (f : Nat → Int64) : (Int32 × S) ⊕ SY → Nat → Int64 := fun v => match v with | .inl v => vp_updL f 0 (if v.1 = 0 then 0 else 1) | .inr _ => f
def gWd (g : Nat → UInt64) : (UInt64 × S) ⊕ SY → Nat → UInt64 := fun v => match v with | .inl v => vf_upd g 0 v.1 | .inr _ => g
theorem lw_i {post : Int32 → (Int32 × S) ⊕ SY → Prop} {z1 : S → OS} {z2 : SY → OS} (h : WX l y cc maxL hh rm av G ((ol, LC G f) :: ofW G u z) post (wW G ol f (fun v => ofW G u (z1 v)) (fun v => ofW G u (z2 v)))) : WX l y cc maxL hh rm av G (LW G ol od u m z M f g) post (fun v => LW G ol od u m (zW z1 z2 v) M (fW f v) g) := frw_i h (pl_w G ol od u m z M f g) (fun v => by cases v <;> exact (pl_w G ol od u m _ M _ g).symm)
theorem lw_b {post : Int32 → (Int32 × S) ⊕ SY → Prop} {z1 : S → OS} {z2 : SY → OS} (h : WX l y cc maxL hh rm av G ((ol, LC G f) :: ofW G u z) post (wWb G ol f (fun v => ofW G u (z1 v)) (fun v => ofW G u (z2 v)))) : WX l y cc maxL hh rm av G (LW G ol od u m z M f g) post (fun v => LW G ol od u m (zW z1 z2 v) M (fWb f v) g) := frw_i h (pl_w G ol od u m z M f g) (fun v => by cases v <;> exact (pl_w G ol od u m _ M _ g).symm)
theorem lw_d {post : Int32 → (UInt64 × S) ⊕ SY → Prop} {z1 : S → OS} {z2 : SY → OS} (h : WX l y cc maxL hh rm av G ((od, DC G g) :: ofW G u z) post (wWd G od g (fun v => ofW G u (z1 v)) (fun v => ofW G u (z2 v)))) : WX l y cc maxL hh rm av G (LW G ol od u m z M f g) post (fun v => LW G ol od u m (zW z1 z2 v) M f (gWd g v)) := frw_i h (pl_d G ol od u m z M f g) (fun v => by cases v <;> exact (pl_d G ol od u m _ M f _).symm)
end LIFTW
theorem yw_appendInput : YW yL_appendInput cL_appendInput 8 [(0, 16, 19, 13)] 7 := ⟨wst_L_appendInput, wi_L, wc_L_appendInput, by decide +kernel⟩
theorem yw_truncateInput : YW yL_truncateInput cL_truncateInput 4 [(0, 9, 12, 19)] 3 := ⟨wst_L_truncateInput, wi_L, wc_L_truncateInput, by decide +kernel⟩
theorem yw_load : YW yL_load cL_load 3 [(0, 8, 11, 19)] 2 := ⟨wst_L_load, wi_L, wc_L_load, by decide +kernel⟩
theorem yw_peopleOf : YW yL_peopleOf cL_peopleOf 4 [(0, 9, 12, 28)] 3 := ⟨wst_L_peopleOf, wi_L, wc_L_peopleOf, by decide +kernel⟩
theorem yw_trustOf : YW yL_trustOf cL_trustOf 4 [(0, 9, 12, 28)] 3 := ⟨wst_L_trustOf, wi_L, wc_L_trustOf, by decide +kernel⟩
theorem yw_forecastsFor : YW yL_forecastsFor cL_forecastsFor 4 [(0, 9, 12, 28)] 3 := ⟨wst_L_forecastsFor, wi_L, wc_L_forecastsFor, by decide +kernel⟩
theorem yw_fairVillage : YW yL_fairVillage cL_fairVillage 4 [(0, 9, 12, 28)] 3 := ⟨wst_L_fairVillage, wi_L, wc_L_fairVillage, by decide +kernel⟩
theorem yw_periodOf : YW yL_periodOf cL_periodOf 4 [(0, 9, 12, 28)] 3 := ⟨wst_L_periodOf, wi_L, wc_L_periodOf, by decide +kernel⟩
theorem yw_stockOf : YW yL_stockOf cL_stockOf 4 [(0, 9, 12, 28)] 3 := ⟨wst_L_stockOf, wi_L, wc_L_stockOf, by decide +kernel⟩
theorem yw_priceOf : YW yL_priceOf cL_priceOf 4 [(0, 9, 12, 28)] 3 := ⟨wst_L_priceOf, wi_L, wc_L_priceOf, by decide +kernel⟩
theorem yw_daysUntilFair : YW yL_daysUntilFair cL_daysUntilFair 4 [(0, 9, 12, 28)] 3 := ⟨wst_L_daysUntilFair, wi_L, wc_L_daysUntilFair, by decide +kernel⟩
theorem yw_oddsOf : YW yL_oddsOf cL_oddsOf 4 [(0, 9, 12, 19)] 3 := ⟨wst_L_oddsOf, wi_L, wc_L_oddsOf, by decide +kernel⟩
theorem yw_chanceOf : YW yL_chanceOf cL_chanceOf 4 [(0, 8, 11, 19)] 3 := ⟨wst_L_chanceOf, wi_L, wc_L_chanceOf, by decide +kernel⟩
theorem yw_drawnThisYear : YW yL_drawnThisYear cL_drawnThisYear 4 [(0, 9, 12, 19)] 3 := ⟨wst_L_drawnThisYear, wi_L, wc_L_drawnThisYear, by decide +kernel⟩
theorem yw_hasForecast : YW yL_hasForecast cL_hasForecast 5 [(0, 17, 20, 28)] 4 := ⟨wst_L_hasForecast, wi_L, wc_L_hasForecast, by decide +kernel⟩
theorem yw_weatherOf : YW yL_weatherOf cL_weatherOf 5 [(0, 10, 13, 28), (0, 10, 17, 69)] 4 := ⟨wst_L_weatherOf, wi_L, wc_L_weatherOf, by decide +kernel⟩
theorem yw_soldOf : YW yL_soldOf cL_soldOf 5 [(0, 10, 13, 28), (0, 10, 17, 69)] 4 := ⟨wst_L_soldOf, wi_L, wc_L_soldOf, by decide +kernel⟩
theorem yw_paidOf : YW yL_paidOf cL_paidOf 5 [(0, 10, 13, 28), (0, 10, 17, 69)] 4 := ⟨wst_L_paidOf, wi_L, wc_L_paidOf, by decide +kernel⟩
theorem yw_pageOf : YW yL_pageOf cL_pageOf 5 [(0, 10, 13, 28), (0, 10, 17, 69)] 4 := ⟨wst_L_pageOf, wi_L, wc_L_pageOf, by decide +kernel⟩
theorem yw_forecastAt : YW yL_forecastAt cL_forecastAt 4 [(0, 9, 12, 69)] 3 := ⟨wst_L_forecastAt, wi_L, wc_L_forecastAt, by decide +kernel⟩
theorem yw_refundOf : YW yL_refundOf cL_refundOf 4 [(0, 9, 12, 69)] 3 := ⟨wst_L_refundOf, wi_L, wc_L_refundOf, by decide +kernel⟩
theorem yw_canRetract : YW yL_canRetract cL_canRetract 4 [(0, 16, 19, 69)] 3 := ⟨wst_L_canRetract, wi_L, wc_L_canRetract, by decide +kernel⟩
theorem yw_printRefusal : YW yL_printRefusal cL_printRefusal 5 [(0, 10, 13, 28)] 4 := ⟨wst_L_printRefusal, wi_L, wc_L_printRefusal, by decide +kernel⟩
theorem yw_tomorrowIn : YW yL_tomorrowIn cL_tomorrowIn 4 [(0, 9, 12, 28)] 3 := ⟨wst_L_tomorrowIn, wi_L, wc_L_tomorrowIn, by decide +kernel⟩
theorem yw_regretAt : YW yL_regretAt cL_regretAt 4 [(0, 9, 12, 28)] 3 := ⟨wst_L_regretAt, wi_L, wc_L_regretAt, by decide +kernel⟩
theorem yw_coinsAfter : YW yL_coinsAfter cL_coinsAfter 4 [(0, 9, 12, 19)] 3 := ⟨wst_L_coinsAfter, wi_L, wc_L_coinsAfter, by decide +kernel⟩
theorem yw_trustAfter : YW yL_trustAfter cL_trustAfter 5 [(0, 10, 13, 28), (0, 10, 17, 19)] 4 := ⟨wst_L_trustAfter, wi_L, wc_L_trustAfter, by decide +kernel⟩
theorem yw_print : YW yL_print cL_print 6 [(0, 12, 15, 28), (0, 12, 19, 19), (0, 12, 23, 13)] 5 := ⟨wst_L_print, wi_L, wc_L_print, by decide +kernel⟩
theorem yw_retract : YW yL_retract cL_retract 4 [(0, 9, 12, 69), (0, 9, 15, 13)] 3 := ⟨wst_L_retract, wi_L, wc_L_retract, by decide +kernel⟩
theorem yw_setTrust : YW yL_setTrust cL_setTrust 5 [(0, 10, 13, 28), (0, 10, 17, 19)] 4 := ⟨wst_L_setTrust, wi_L, wc_L_setTrust, by decide +kernel⟩
theorem yw_setPeople : YW yL_setPeople cL_setPeople 5 [(0, 10, 13, 28), (0, 10, 17, 19)] 4 := ⟨wst_L_setPeople, wi_L, wc_L_setPeople, by decide +kernel⟩
theorem yw_setOdds : YW yL_setOdds cL_setOdds 5 [(0, 10, 13, 19), (0, 10, 17, 13)] 4 := ⟨wst_L_setOdds, wi_L, wc_L_setOdds, by decide +kernel⟩
theorem yw_pass : YW yL_pass cL_pass 4 [(0, 9, 12, 19)] 3 := ⟨wst_L_pass, wi_L, wc_L_pass, by decide +kernel⟩
theorem yw_writePage : YW yL_writePage cL_writePage 4 [(0, 9, 12, 69)] 3 := ⟨wst_L_writePage, wi_L, wc_L_writePage, by decide +kernel⟩
theorem yw_outputByte : YW yL_outputByte cL_outputByte 4 [(0, 9, 12, 69)] 3 := ⟨wst_L_outputByte, wi_L, wc_L_outputByte, by decide +kernel⟩
theorem yw_save : YW yL_save cL_save 4 [(0, 9, 12, 28)] 3 := ⟨wst_L_save, wi_L, wc_L_save, by decide +kernel⟩
theorem yw_restore : YW yL_restore cL_restore 4 [(0, 9, 12, 28), (0, 9, 15, 13)] 3 := ⟨wst_L_restore, wi_L, wc_L_restore, by decide +kernel⟩
theorem yw_undo : YW yL_undo cL_undo 3 [(0, 8, 11, 13)] 2 := ⟨wst_L_undo, wi_L, wc_L_undo, by decide +kernel⟩

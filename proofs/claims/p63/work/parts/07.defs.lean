theorem nI_inc (a : Nat) : nI a + Int32.ofInt 1 = nI (a + 1) := nI_1 a
theorem nI_incc (a c : Nat) (d : Int) (h : Int32.ofInt d = nI c) : nI a + Int32.ofInt d = nI (a + c) := by rw [h]; exact nI_add a c
theorem nI_dec {a : Nat} (h : 0 < a) : nI a + Int32.ofInt (-1) = nI (a - 1) := by
  obtain ⟨b, rfl⟩ : ∃ b, a = b + 1 := ⟨a - 1, by omega⟩
  rw [show b + 1 - 1 = b by omega]
  exact pk_m1 b
theorem i_inc {a c : Int32} {d : Int} (h : Int32.ofInt d = c) : a + Int32.ofInt d = a + c := by rw [h]
/-- contents: rows of ints -/
abbrev CT : Type := Nat → Nat → Int32
def ur (S : CT) (r : Nat) (f : Nat → Int32) : CT := fun r' => if r' = r then f else S r'
def us (S : CT) (r j : Nat) (v : Int32) : CT := fun r' => if r' = r then upd (S r) j v else S r'
/-- a State of the class at the addresses a 0 .. a 21. Rows: 0 names, 1 people, 2 trusts of the villages; 3 names, 4 villages, 5 periods, 6 stocks, 7 prices of the fairs; 8 odds, 9 drawn; 10 villages, 11 days, 12 weathers, 13 sold, 14 paid of the book; 15 labels of regrets; 16: 0 day, 1 coins, 2 hits, 3 regrets, 4 retractions, 5 copiesSold, 6 copiesGone, 7 coinsEarned, 8 coinsPaidBack, 9 villages, 10 fairs, 11 seed, 12 forecasts, 13 regrets remembered -/
def stW (G : gT) (a : Nat → Nat) (S : CT) : va_W := [(a 0, .inr (8, [.ref (a 1), .ref (a 5), .ref (a 11), .ref (a 14), .ref (a 20), .int (S 16 0), .int (S 16 1), .int (S 16 2), .int (S 16 3), .int (S 16 4), .int (S 16 5), .int (S 16 6), .int (S 16 7), .int (S 16 8)])), (a 1, .inr (9, [.ref (a 2), .ref (a 3), .ref (a 4), .int (S 16 9)])), (a 2, .inl (gc G 0, 6, .inl (S 0))), (a 3, .inl (gc G 0, 6, .inl (S 1))), (a 4, .inl (gc G 0, 6, .inl (S 2))), (a 5, .inr (2, [.ref (a 6), .ref (a 7), .ref (a 8), .ref (a 9), .ref (a 10), .int (S 16 10)])), (a 6, .inl (gc G 0, 6, .inl (S 3))), (a 7, .inl (gc G 0, 6, .inl (S 4))), (a 8, .inl (gc G 0, 6, .inl (S 5))), (a 9, .inl (gc G 0, 6, .inl (S 6))), (a 10, .inl (gc G 0, 6, .inl (S 7))), (a 11, .inr (7, [.ref (a 12), .ref (a 13), .int (S 16 11)])), (a 12, .inl (gc G 0, 3, .inl (S 8))), (a 13, .inl (gc G 0, 3, .inl (S 9))), (a 14, .inr (0, [.ref (a 15), .ref (a 16), .ref (a 17), .ref (a 18), .ref (a 19), .int (S 16 12)])), (a 15, .inl (gc G 0, 30, .inl (S 10))), (a 16, .inl (gc G 0, 30, .inl (S 11))), (a 17, .inl (gc G 0, 30, .inl (S 12))), (a 18, .inl (gc G 0, 30, .inl (S 13))), (a 19, .inl (gc G 0, 30, .inl (S 14))), (a 20, .inr (4, [.ref (a 21), .int (S 16 13)])), (a 21, .inl (gc G 0, 10, .inl (S 15)))]
/-- a row of bytes: row 0 the bytes, row 1 the length -/
def byW (G : gT) (a : Nat → Nat) (B : CT) : va_W := [(a 0, .inr (1, [.ref (a 1), .int (B 1 0)])), (a 1, .inl (gc G 1, 600, .inl (B 0)))]
section JMORE
variable {x : JX} {G : gT} {R : Room} {cc : ByteArray} {w0 : Cond} {own : String} {nL : Nat} {ws : va_W} {k n n' : Nat} {lv : List (Nat × Value)} {st : List Value} {pc : Nat}
theorem J_mmin (hC : JC x G R cc w0 own nL) {a b v : Int32} {idx : Nat} (hd : decode cc pc = .ok (.invokestatic idx, 3)) (hl : Cond.methodLink own idx Lib.Math.min.name ∈ GW) (hf : 1 ≤ R.frames) (hlo : (st.map fun v => v.category).sum + 13 ≤ R.locals) (hk : k ≤ R.cells) (hn : n ≤ R.slots) (hv : (if b < a then b else a) = v) (kk : J x G ws k n lv (.int v :: st) (pc + 3)) : J x G ws k n lv (.int b :: .int a :: st) pc := by
  subst hv
  intro H locs ls hP hD hS hL
  have hRR : jR x = R := hC.2.2.2.2.2.2.2.1
  have W9 : ∀ w ∈ GW, w.before (ja x) (js x) = true := fun w h => hC.2.2.2.2.1 w (List.mem_cons_of_mem _ h)
  exact va_mmin hC.1 hC.2.1 hL.1.symm hC.2.2.2.1 (W9 _ hl) (W9 _ wst_Lib_Math_min_name) (W9 _ wi_J9) (W9 _ wc_Lib_Math_min_name) (by rw [hRR]; exact hf) (by rw [hRR]; exact hlo) (by rw [hRR]; exact hk) (by rw [hRR]; exact hn) hd (kk H locs ls hP hD hS hL)
theorem J_mmax (hC : JC x G R cc w0 own nL) {a b v : Int32} {idx : Nat} (hd : decode cc pc = .ok (.invokestatic idx, 3)) (hl : Cond.methodLink own idx Lib.Math.max.name ∈ GW) (hf : 1 ≤ R.frames) (hlo : (st.map fun v => v.category).sum + 13 ≤ R.locals) (hk : k ≤ R.cells) (hn : n ≤ R.slots) (hv : (if a < b then b else a) = v) (kk : J x G ws k n lv (.int v :: st) (pc + 3)) : J x G ws k n lv (.int b :: .int a :: st) pc := by
  subst hv
  intro H locs ls hP hD hS hL
  have hRR : jR x = R := hC.2.2.2.2.2.2.2.1
  have W9 : ∀ w ∈ GW, w.before (ja x) (js x) = true := fun w h => hC.2.2.2.2.1 w (List.mem_cons_of_mem _ h)
  exact va_mmax hC.1 hC.2.1 hL.1.symm hC.2.2.2.1 (W9 _ hl) (W9 _ wst_Lib_Math_max_name) (W9 _ wi_J9) (W9 _ wc_Lib_Math_max_name) (by rw [hRR]; exact hf) (by rw [hRR]; exact hlo) (by rw [hRR]; exact hk) (by rw [hRR]; exact hn) hd (kk H locs ls hP hD hS hL)
theorem J_copy (hC : JC x G R cc w0 own nL) {idx a0 a n0 n1 sp dp m : Nat} {f g : Nat → Int32} {ws' : va_W} (hd : decode cc pc = .ok (.invokestatic idx, 3)) (hl : Cond.methodLink own idx arraycopyName ∈ GW) (q0 q1 : Nat) (h0 : ws[q0]? = some (a0, .inl (gc G 0, n0, .inl f))) (h1 : ws[q1]? = some (a, .inl (gc G 0, n1, .inl g)))
    (hs : sp + m ≤ n0) (ht : dp + m ≤ n1) (hb0 : n0 < 2 ^ 31) (hb1 : n1 < 2 ^ 31) (hf : 1 ≤ R.frames) (hlo : (st.map fun v => v.category).sum + (nativeFrameWords "java/lang/System" "arraycopy" 5 + 11) ≤ R.locals) (hw : ws.set q1 (a, .inl (gc G 0, n1, .inl (va_cpy f g sp dp m))) = ws') (kk : J x G ws' k n lv st (pc + 3)) :
    J x G ws k n lv (.int (nI m) :: .int (nI dp) :: .ref a :: .int (nI sp) :: .ref a0 :: st) pc := by
  subst hw
  intro H locs ls hP hD hS hL
  have hRR : jR x = R := hC.2.2.2.2.2.2.2.1
  have W9 : ∀ w ∈ GW, w.before (ja x) (js x) = true := fun w h => hC.2.2.2.2.1 w (List.mem_cons_of_mem _ h)
  have e1 : (nI sp).toNatClampNeg = sp := nI_clamp (by omega)
  have e2 : (nI dp).toNatClampNeg = dp := nI_clamp (by omega)
  have e3 : (nI m).toNatClampNeg = m := nI_clamp (by omega)
  refine va_copyi hC.1 hC.2.1 hL.1.symm hC.2.2.2.1 (W9 _ hl) (W9 _ wnat_arraycopyName) (W9 _ wst_arraycopyName) (W9 _ wi_J10) hC.2.2.2.2.2.1 hP hD hS q0 q1 0 0 (ty := .int) h0 h1 rfl rfl rfl (nI_pos (by omega)) (nI_pos (by omega)) (nI_pos (by omega)) (by rw [e1, e3]; exact hs) (by rw [e2, e3]; exact ht) (fun _ _ => rfl) (by rw [hRR]; exact hf) (by rw [hRR]; exact hlo) hd (fun H1 locs1 hP1 hD1 hS1 => ?_)
  rw [e1, e2, e3] at hP1 hD1
  exact kk H1 locs1 ls hP1 hD1 hS1 hL
theorem va_at_cong {D : va_G} {cl : List vw_C} {a n : Nat} {cA : ClassId} {f g : Nat → Int32} {H : Heap} (h : ∀ i, i < n → f i = g i) (hP : va_at D cl (a, .inl (cA, n, .inl f)) H) : va_at D cl (a, .inl (cA, n, .inl g)) H := by
  have e : vp_cell cA (n, (.inl f : (Nat → Int32) ⊕ _)) = vp_cell cA (n, .inl g) := by
    show arrV cA n (fun j => .int (f j)) = arrV cA n (fun j => .int (g j))
    simp only [arrV, Cell.mk.injEq, true_and, and_true]
    apply Array.ext
    · simp
    · intro i h1 h2
      simp at h1 ⊢
      exact h i h1
  exact hP.trans (congrArg some e)
theorem J_cong {q a n : Nat} {cA : ClassId} {f g : Nat → Int32} (hq : ws[q]? = some (a, .inl (cA, n, .inl f))) (h : ∀ i, i < n → f i = g i) (kk : J x G (ws.set q (a, .inl (cA, n, .inl g))) k n' lv st pc) : J x G ws k n' lv st pc := by
  intro H locs ls hP hD hS hL
  exact kk H locs ls (hP.set hD hq (va_at_cong h (hP q _ hq)) (fun _ _ => rfl)) (hD.set hq) hS hL
theorem J_copyall (hC : JC x G R cc w0 own nL) {idx a0 a m : Nat} {f g : Nat → Int32} {ws' : va_W} (hd : decode cc pc = .ok (.invokestatic idx, 3)) (hl : Cond.methodLink own idx arraycopyName ∈ GW) (q0 q1 : Nat) (h0 : ws[q0]? = some (a0, .inl (gc G 0, m, .inl f))) (h1 : ws[q1]? = some (a, .inl (gc G 0, m, .inl g)))
    (hb0 : m < 2 ^ 31) (hf : 1 ≤ R.frames) (hlo : (st.map fun v => v.category).sum + (nativeFrameWords "java/lang/System" "arraycopy" 5 + 11) ≤ R.locals) (hw : ws.set q1 (a, .inl (gc G 0, m, .inl f)) = ws') (kk : J x G ws' k n lv st (pc + 3)) :
    J x G ws k n lv (.int (nI m) :: .int 0 :: .ref a :: .int 0 :: .ref a0 :: st) pc := by
  subst hw
  refine J_copy (sp := 0) (dp := 0) (m := m) hC hd hl q0 q1 h0 h1 (by omega) (by omega) hb0 hb0 hf hlo rfl ?_
  have hlt : q1 < ws.length := by
    rcases Nat.lt_or_ge q1 ws.length with h | h
    · exact h
    · rw [List.getElem?_eq_none h] at h1; cases h1
  refine J_cong (q := q1) (a := a) (n := m) (cA := gc G 0) (f := va_cpy f g 0 0 m) (g := f) (by rw [List.getElem?_set_self hlt]) (fun i hi => ?_) ?_
  · rw [pk_cpy_in (by omega) (by omega), Nat.zero_add, Nat.sub_zero]
  · rw [List.set_set]
    exact kk
theorem J_callSNi {S : Type} {rest : List Value} {host : String} {C : String} {idx maxLY na : Nat} {y : MethodName} {ccY : ByteArray} {ret : Option FieldType} {rmY : Room} {As : List Value} {post : Int32 → S → Prop} {W1 : S → va_W} (hC : JC x G R cc w0 own nL) (hd : decode cc pc = .ok (.invokestatic idx, 3)) (hl : Cond.methodLinkNest own idx y host ∈ NWL) (hY : YS y C ccY maxLY ret na)
    (hM : MI (jl x) y ccY maxLY ret rmY As G ws post W1)
    (hst : st = As.reverse ++ rest) (hna : As.length = na) (hR : rmY.frames + 1 ≤ R.frames ∧ 8 + (maxLY + 11) + rmY.locals ≤ R.locals) (hcat : (rest.map fun v => v.category).sum ≤ 8) (hk : k + rmY.cells ≤ R.cells) (hn : n + rmY.slots ≤ R.slots)
    (kk : ∀ (r : Int32) (u : S), post r u → J x G (W1 u) (k + rmY.cells) (n + rmY.slots) lv (.int r :: rest) (pc + 3)) : J x G ws k n lv st pc := by
  intro H locs ls hP hD hS hL
  have hK := hC.2.2.2.2.2.1
  have hRR : jR x = R := hC.2.2.2.2.2.2.2.1
  have hE := hC.2.2.2.2.2.2.2.2.2
  have hF := va_A_in hD hS hC.2.2.2.2.2.2.1
  have ht0 := hC.2.2.2.2.1
  refine va_calli (va_runSN (As := As) (rest := rest) ⟨hC.1, hC.2.1, hC.2.2.1, hC.2.2.2.1, hC.2.2.2.2.1⟩ (hM H.size) ⟨va_cnB na ht0 (fun w hw => ⟨(List.mem_cons.mp hw).elim (fun e => List.mem_cons_of_mem _ (e ▸ hY.2.2.1)) (fun h => List.mem_cons_of_mem _ h), gw_good w ((List.mem_cons.mp hw).elim (fun e => e ▸ hY.2.2.1) id)⟩) rfl rfl rfl (hE.1 _ hl) (ht0 _ (List.mem_cons_of_mem _ (by rw [hY.2.2.2.1]; exact hY.2.1))) hY.2.2.2.2 (by rw [hRR]; exact hR), ht0 _ (List.mem_cons_of_mem _ hY.1), trivial⟩ ⟨gP_blind _ _ _ _, fun U hU hW => ⟨rfl, by rw [hU], by rw [hU]; exact hP, va_K.moved hW.alike hK, hD.weaken (fun _ _ _ _ => trivial), hE.step hW (by rw [hU]; intro q hq hn; rw [hC.2.2.2.2.2.2.2.2.1] at hS; exact hS.2.1 q hq hn) hF⟩⟩ rfl hna (hL.1.trans hC.2.2.1) hst (lv_room hcat) hd (by rw [hRR]; exact ⟨hk, hn⟩)) hS (fun q _ h => hF q h) hF (fun r u t H1 locs1 ht hvm hw hB hz hk1 hS1 => ?_)
  obtain ⟨hP1, hK1, hD1⟩ := hB
  rw [ht] at hP1
  exact kk r u hw H1 locs1 ls hP1 (hD1.weaken (fun _ _ _ h => hF _ h)) hS1 hL
end JMORE
theorem yi_X1_putText : YV yX1_putText RX1 cX1_putText 3 none 1 := ⟨wn_X1_putText, we_X1_putText, wi_X1, wc_X1_putText, by decide +kernel⟩
theorem yi_X1_put : YV yX1_put RX1 cX1_put 2 none 1 := ⟨wn_X1_put, we_X1_put, wi_X1, wc_X1_put, by decide +kernel⟩
theorem yi_X5_readText : YV yX5_readText RX5 cX5_readText 2 (some FieldType.boolean) 0 := ⟨wn_X5_readText, we_X5_readText, wi_X5, wc_X5_readText, by decide +kernel⟩
theorem yi_X5_readAlmanac : YV yX5_readAlmanac RX5 cX5_readAlmanac 2 (some FieldType.boolean) 0 := ⟨wn_X5_readAlmanac, we_X5_readAlmanac, wi_X5, wc_X5_readAlmanac, by decide +kernel⟩
theorem yi_X6_next : YV yX6_next RX6 cX6_next 2 none 0 := ⟨wn_X6_next, we_X6_next, wi_X6, wc_X6_next, by decide +kernel⟩
theorem yi_X1_at : YV yX1_at RX1 cX1_at 2 (some FieldType.int) 1 := ⟨wn_X1_at, we_X1_at, wi_X1, wc_X1_at, by decide +kernel⟩
theorem yi_X6_isBlank : YV yX6_isBlank RX6 cX6_isBlank 2 (some FieldType.boolean) 1 := ⟨wn_X6_isBlank, we_X6_isBlank, wi_X6, wc_X6_isBlank, by decide +kernel⟩
theorem yi_X10_isLetter : YS yX10_isLetter RX10 cX10_isLetter 1 (some FieldType.boolean) 1 := ⟨wst_X10_isLetter, wi_X10, wc_X10_isLetter, by decide +kernel⟩
theorem yi_X10_isDigit : YS yX10_isDigit RX10 cX10_isDigit 1 (some FieldType.boolean) 1 := ⟨wst_X10_isDigit, wi_X10, wc_X10_isDigit, by decide +kernel⟩
theorem yi_X6_readDigits : YV yX6_readDigits RX6 cX6_readDigits 1 none 0 := ⟨wn_X6_readDigits, we_X6_readDigits, wi_X6, wc_X6_readDigits, by decide +kernel⟩
theorem yi_X6_isWord : YV yX6_isWord RX6 cX6_isWord 3 (some FieldType.boolean) 1 := ⟨wn_X6_isWord, we_X6_isWord, wi_X6, wc_X6_isWord, by decide +kernel⟩
theorem yi_X5_fail : YV yX5_fail RX5 cX5_fail 2 (some FieldType.boolean) 1 := ⟨wn_X5_fail, we_X5_fail, wi_X5, wc_X5_fail, by decide +kernel⟩
theorem yi_X5_readNumber : YV yX5_readNumber RX5 cX5_readNumber 3 (some FieldType.boolean) 2 := ⟨wn_X5_readNumber, we_X5_readNumber, wi_X5, wc_X5_readNumber, by decide +kernel⟩
theorem yi_X10_isBetween : YS yX10_isBetween RX10 cX10_isBetween 3 (some FieldType.boolean) 3 := ⟨wst_X10_isBetween, wi_X10, wc_X10_isBetween, by decide +kernel⟩
theorem yi_X7_sumOfOdds : YV yX7_sumOfOdds RX7 cX7_sumOfOdds 1 (some FieldType.int) 0 := ⟨wn_X7_sumOfOdds, we_X7_sumOfOdds, wi_X7, wc_X7_sumOfOdds, by decide +kernel⟩
theorem yi_X5_readSemicolon : YV yX5_readSemicolon RX5 cX5_readSemicolon 1 (some FieldType.boolean) 0 := ⟨wn_X5_readSemicolon, we_X5_readSemicolon, wi_X5, wc_X5_readSemicolon, by decide +kernel⟩
theorem yi_X6_isSemicolon : YV yX6_isSemicolon RX6 cX6_isSemicolon 1 (some FieldType.boolean) 0 := ⟨wn_X6_isSemicolon, we_X6_isSemicolon, wi_X6, wc_X6_isSemicolon, by decide +kernel⟩
theorem yi_X5_readStatement : YV yX5_readStatement RX5 cX5_readStatement 1 (some FieldType.boolean) 0 := ⟨wn_X5_readStatement, we_X5_readStatement, wi_X5, wc_X5_readStatement, by decide +kernel⟩
theorem yi_X5_readVillage : YV yX5_readVillage RX5 cX5_readVillage 4 (some FieldType.boolean) 0 := ⟨wn_X5_readVillage, we_X5_readVillage, wi_X5, wc_X5_readVillage, by decide +kernel⟩
theorem yi_X5_readNewName : YV yX5_readNewName RX5 cX5_readNewName 3 (some FieldType.boolean) 0 := ⟨wn_X5_readNewName, we_X5_readNewName, wi_X5, wc_X5_readNewName, by decide +kernel⟩
theorem yi_X6_name : YV yX6_name RX6 cX6_name 1 (some FieldType.int) 0 := ⟨wn_X6_name, we_X6_name, wi_X6, wc_X6_name, by decide +kernel⟩
theorem yi_X1_nameBetween : YV yX1_nameBetween RX1 cX1_nameBetween 6 (some FieldType.int) 2 := ⟨wn_X1_nameBetween, we_X1_nameBetween, wi_X1, wc_X1_nameBetween, by decide +kernel⟩
theorem yi_X9_numberOf : YV yX9_numberOf RX9 cX9_numberOf 2 (some FieldType.int) 1 := ⟨wn_X9_numberOf, we_X9_numberOf, wi_X9, wc_X9_numberOf, by decide +kernel⟩
theorem yi_X10_placeIn : YS yX10_placeIn RX10 cX10_placeIn 4 (some FieldType.int) 3 := ⟨wst_X10_placeIn, wi_X10, wc_X10_placeIn, by decide +kernel⟩
theorem yi_X2_numberOf : YV yX2_numberOf RX2 cX2_numberOf 2 (some FieldType.int) 1 := ⟨wn_X2_numberOf, we_X2_numberOf, wi_X2, wc_X2_numberOf, by decide +kernel⟩
theorem yi_X9_add : YV yX9_add RX9 cX9_add 4 none 3 := ⟨wn_X9_add, we_X9_add, wi_X9, wc_X9_add, by decide +kernel⟩
theorem yi_X5_readFair : YV yX5_readFair RX5 cX5_readFair 6 (some FieldType.boolean) 0 := ⟨wn_X5_readFair, we_X5_readFair, wi_X5, wc_X5_readFair, by decide +kernel⟩
theorem yi_X5_readKnownVillage : YV yX5_readKnownVillage RX5 cX5_readKnownVillage 1 (some FieldType.boolean) 0 := ⟨wn_X5_readKnownVillage, we_X5_readKnownVillage, wi_X5, wc_X5_readKnownVillage, by decide +kernel⟩
theorem yi_X2_add : YV yX2_add RX2 cX2_add 6 none 5 := ⟨wn_X2_add, we_X2_add, wi_X2, wc_X2_add, by decide +kernel⟩
theorem yi_X5_readSay : YV yX5_readSay RX5 cX5_readSay 4 (some FieldType.boolean) 0 := ⟨wn_X5_readSay, we_X5_readSay, wi_X5, wc_X5_readSay, by decide +kernel⟩
theorem yi_X5_weatherOfToken : YV yX5_weatherOfToken RX5 cX5_weatherOfToken 1 (some FieldType.int) 0 := ⟨wn_X5_weatherOfToken, we_X5_weatherOfToken, wi_X5, wc_X5_weatherOfToken, by decide +kernel⟩
theorem yi_X8_refusalToPrint : YV yX8_refusalToPrint RX8 cX8_refusalToPrint 3 (some FieldType.int) 2 := ⟨wn_X8_refusalToPrint, we_X8_refusalToPrint, wi_X8, wc_X8_refusalToPrint, by decide +kernel⟩
theorem yi_X0_placeOf : YV yX0_placeOf RX0 cX0_placeOf 4 (some FieldType.int) 2 := ⟨wn_X0_placeOf, we_X0_placeOf, wi_X0, wc_X0_placeOf, by decide +kernel⟩
theorem yi_X0_add : YV yX0_add RX0 cX0_add 4 none 3 := ⟨wn_X0_add, we_X0_add, wi_X0, wc_X0_add, by decide +kernel⟩
theorem yi_X5_readRetract : YV yX5_readRetract RX5 cX5_readRetract 2 (some FieldType.boolean) 0 := ⟨wn_X5_readRetract, we_X5_readRetract, wi_X5, wc_X5_readRetract, by decide +kernel⟩
theorem yi_X0_hasPage : YV yX0_hasPage RX0 cX0_hasPage 2 (some FieldType.boolean) 1 := ⟨wn_X0_hasPage, we_X0_hasPage, wi_X0, wc_X0_hasPage, by decide +kernel⟩
theorem yi_X0_pages : YV yX0_pages RX0 cX0_pages 1 (some FieldType.int) 0 := ⟨wn_X0_pages, we_X0_pages, wi_X0, wc_X0_pages, by decide +kernel⟩
theorem yi_X8_canPayBackPage : YV yX8_canPayBackPage RX8 cX8_canPayBackPage 2 (some FieldType.boolean) 1 := ⟨wn_X8_canPayBackPage, we_X8_canPayBackPage, wi_X8, wc_X8_canPayBackPage, by decide +kernel⟩
theorem yi_X0_paidForPage : YV yX0_paidForPage RX0 cX0_paidForPage 4 (some FieldType.int) 1 := ⟨wn_X0_paidForPage, we_X0_paidForPage, wi_X0, wc_X0_paidForPage, by decide +kernel⟩
theorem yi_X0_startOf : YV yX0_startOf RX0 cX0_startOf 2 (some FieldType.int) 1 := ⟨wn_X0_startOf, we_X0_startOf, wi_X0, wc_X0_startOf, by decide +kernel⟩
theorem yi_X0_endOf : YV yX0_endOf RX0 cX0_endOf 2 (some FieldType.int) 1 := ⟨wn_X0_endOf, we_X0_endOf, wi_X0, wc_X0_endOf, by decide +kernel⟩
theorem yi_X8_takeBackPage : YV yX8_takeBackPage RX8 cX8_takeBackPage 6 (some FieldType.int) 1 := ⟨wn_X8_takeBackPage, we_X8_takeBackPage, wi_X8, wc_X8_takeBackPage, by decide +kernel⟩
theorem yi_X9_changeTrust : YV yX9_changeTrust RX9 cX9_changeTrust 4 none 2 := ⟨wn_X9_changeTrust, we_X9_changeTrust, wi_X9, wc_X9_changeTrust, by decide +kernel⟩
theorem yi_X9_has : YV yX9_has RX9 cX9_has 2 (some FieldType.boolean) 1 := ⟨wn_X9_has, we_X9_has, wi_X9, wc_X9_has, by decide +kernel⟩
theorem yi_X0_remove : YV yX0_remove RX0 cX0_remove 4 none 2 := ⟨wn_X0_remove, we_X0_remove, wi_X0, wc_X0_remove, by decide +kernel⟩
theorem yi_X8_payBack : YV yX8_payBack RX8 cX8_payBack 2 none 1 := ⟨wn_X8_payBack, we_X8_payBack, wi_X8, wc_X8_payBack, by decide +kernel⟩
theorem yi_X5_readPass : YV yX5_readPass RX5 cX5_readPass 2 (some FieldType.boolean) 0 := ⟨wn_X5_readPass, we_X5_readPass, wi_X5, wc_X5_readPass, by decide +kernel⟩
theorem yi_X8_letDaysPass : YV yX8_letDaysPass RX8 cX8_letDaysPass 4 none 1 := ⟨wn_X8_letDaysPass, we_X8_letDaysPass, wi_X8, wc_X8_letDaysPass, by decide +kernel⟩
theorem yi_X2_isHeld : YV yX2_isHeld RX2 cX2_isHeld 4 (some FieldType.boolean) 2 := ⟨wn_X2_isHeld, we_X2_isHeld, wi_X2, wc_X2_isHeld, by decide +kernel⟩
theorem yi_X8_sellAt : YV yX8_sellAt RX8 cX8_sellAt 7 none 1 := ⟨wn_X8_sellAt, we_X8_sellAt, wi_X8, wc_X8_sellAt, by decide +kernel⟩
theorem yi_X9_wish : YV yX9_wish RX9 cX9_wish 3 (some FieldType.int) 2 := ⟨wn_X9_wish, we_X9_wish, wi_X9, wc_X9_wish, by decide +kernel⟩
theorem yi_X7_draw : YV yX7_draw RX7 cX7_draw 2 (some FieldType.int) 0 := ⟨wn_X7_draw, we_X7_draw, wi_X7, wc_X7_draw, by decide +kernel⟩
theorem yi_X7_seedAfter : YS yX7_seedAfter RX7 cX7_seedAfter 1 (some FieldType.int) 1 := ⟨wst_X7_seedAfter, wi_X7, wc_X7_seedAfter, by decide +kernel⟩
theorem yi_X7_weatherFor : YV yX7_weatherFor RX7 cX7_weatherFor 4 (some FieldType.int) 1 := ⟨wn_X7_weatherFor, we_X7_weatherFor, wi_X7, wc_X7_weatherFor, by decide +kernel⟩
theorem yi_X8_judge : YV yX8_judge RX8 cX8_judge 5 none 2 := ⟨wn_X8_judge, we_X8_judge, wi_X8, wc_X8_judge, by decide +kernel⟩
theorem yi_X4_add : YV yX4_add RX4 cX4_add 3 none 2 := ⟨wn_X4_add, we_X4_add, wi_X4, wc_X4_add, by decide +kernel⟩
theorem yi_X10_labelOf : YS yX10_labelOf RX10 cX10_labelOf 2 (some FieldType.int) 2 := ⟨wst_X10_labelOf, wi_X10, wc_X10_labelOf, by decide +kernel⟩
theorem yi_X7_closeYear : YV yX7_closeYear RX7 cX7_closeYear 4 none 0 := ⟨wn_X7_closeYear, we_X7_closeYear, wi_X7, wc_X7_closeYear, by decide +kernel⟩
theorem yi_X7_firstGreatest : YS yX7_firstGreatest RX7 cX7_firstGreatest 3 (some FieldType.int) 1 := ⟨wst_X7_firstGreatest, wi_X7, wc_X7_firstGreatest, by decide +kernel⟩
theorem yi_X7_lastLeast : YS yX7_lastLeast RX7 cX7_lastLeast 3 (some FieldType.int) 1 := ⟨wst_X7_lastLeast, wi_X7, wc_X7_lastLeast, by decide +kernel⟩
theorem yi_X8_takeFrom : YV yX8_takeFrom RX8 cX8_takeFrom 2 none 1 := ⟨wn_X8_takeFrom, we_X8_takeFrom, wi_X8, wc_X8_takeFrom, by decide +kernel⟩
theorem yi_X9_takeFrom : YV yX9_takeFrom RX9 cX9_takeFrom 2 none 1 := ⟨wn_X9_takeFrom, we_X9_takeFrom, wi_X9, wc_X9_takeFrom, by decide +kernel⟩
theorem yi_X2_takeFrom : YV yX2_takeFrom RX2 cX2_takeFrom 2 none 1 := ⟨wn_X2_takeFrom, we_X2_takeFrom, wi_X2, wc_X2_takeFrom, by decide +kernel⟩
theorem yi_X7_takeFrom : YV yX7_takeFrom RX7 cX7_takeFrom 2 none 1 := ⟨wn_X7_takeFrom, we_X7_takeFrom, wi_X7, wc_X7_takeFrom, by decide +kernel⟩
theorem yi_X0_takeFrom : YV yX0_takeFrom RX0 cX0_takeFrom 2 none 1 := ⟨wn_X0_takeFrom, we_X0_takeFrom, wi_X0, wc_X0_takeFrom, by decide +kernel⟩
theorem yi_X4_takeFrom : YV yX4_takeFrom RX4 cX4_takeFrom 2 none 1 := ⟨wn_X4_takeFrom, we_X4_takeFrom, wi_X4, wc_X4_takeFrom, by decide +kernel⟩
theorem yi_X10_errorCode : YV yX10_errorCode RX10 cX10_errorCode 1 (some FieldType.int) 0 := ⟨wn_X10_errorCode, we_X10_errorCode, wi_X10, wc_X10_errorCode, by decide +kernel⟩
theorem yi_X10_day : YV yX10_day RX10 cX10_day 1 (some FieldType.int) 0 := ⟨wn_X10_day, we_X10_day, wi_X10, wc_X10_day, by decide +kernel⟩
theorem yi_X10_seed : YV yX10_seed RX10 cX10_seed 1 (some FieldType.int) 0 := ⟨wn_X10_seed, we_X10_seed, wi_X10, wc_X10_seed, by decide +kernel⟩
theorem yi_X10_coins : YV yX10_coins RX10 cX10_coins 1 (some FieldType.int) 0 := ⟨wn_X10_coins, we_X10_coins, wi_X10, wc_X10_coins, by decide +kernel⟩
theorem yi_X10_fairCount : YV yX10_fairCount RX10 cX10_fairCount 1 (some FieldType.int) 0 := ⟨wn_X10_fairCount, we_X10_fairCount, wi_X10, wc_X10_fairCount, by decide +kernel⟩
theorem yi_X10_forecastCount : YV yX10_forecastCount RX10 cX10_forecastCount 1 (some FieldType.int) 0 := ⟨wn_X10_forecastCount, we_X10_forecastCount, wi_X10, wc_X10_forecastCount, by decide +kernel⟩
theorem yi_X10_pageCount : YV yX10_pageCount RX10 cX10_pageCount 1 (some FieldType.int) 0 := ⟨wn_X10_pageCount, we_X10_pageCount, wi_X10, wc_X10_pageCount, by decide +kernel⟩
theorem yi_X10_regretCount : YV yX10_regretCount RX10 cX10_regretCount 1 (some FieldType.int) 0 := ⟨wn_X10_regretCount, we_X10_regretCount, wi_X10, wc_X10_regretCount, by decide +kernel⟩
theorem yi_X10_hits : YV yX10_hits RX10 cX10_hits 1 (some FieldType.int) 0 := ⟨wn_X10_hits, we_X10_hits, wi_X10, wc_X10_hits, by decide +kernel⟩
theorem yi_X10_regrets : YV yX10_regrets RX10 cX10_regrets 1 (some FieldType.int) 0 := ⟨wn_X10_regrets, we_X10_regrets, wi_X10, wc_X10_regrets, by decide +kernel⟩
theorem yi_X10_retractions : YV yX10_retractions RX10 cX10_retractions 1 (some FieldType.int) 0 := ⟨wn_X10_retractions, we_X10_retractions, wi_X10, wc_X10_retractions, by decide +kernel⟩
theorem yi_X0_labelAt : YV yX0_labelAt RX0 cX0_labelAt 2 (some FieldType.int) 1 := ⟨wn_X0_labelAt, we_X0_labelAt, wi_X0, wc_X0_labelAt, by decide +kernel⟩
theorem yi_X10_copyDifference : YV yX10_copyDifference RX10 cX10_copyDifference 1 (some FieldType.int) 0 := ⟨wn_X10_copyDifference, we_X10_copyDifference, wi_X10, wc_X10_copyDifference, by decide +kernel⟩
theorem yi_X0_copies : YV yX0_copies RX0 cX0_copies 3 (some FieldType.int) 0 := ⟨wn_X0_copies, we_X0_copies, wi_X0, wc_X0_copies, by decide +kernel⟩
theorem yi_X10_coinDifference : YV yX10_coinDifference RX10 cX10_coinDifference 1 (some FieldType.int) 0 := ⟨wn_X10_coinDifference, we_X10_coinDifference, wi_X10, wc_X10_coinDifference, by decide +kernel⟩
theorem yi_X10_bookErrors : YV yX10_bookErrors RX10 cX10_bookErrors 1 (some FieldType.int) 0 := ⟨wn_X10_bookErrors, we_X10_bookErrors, wi_X10, wc_X10_bookErrors, by decide +kernel⟩
theorem yi_X0_errors : YV yX0_errors RX0 cX0_errors 3 (some FieldType.int) 0 := ⟨wn_X0_errors, we_X0_errors, wi_X0, wc_X0_errors, by decide +kernel⟩
theorem yi_X10_appendInput : YV yX10_appendInput RX10 cX10_appendInput 6 (some FieldType.int) 5 := ⟨wn_X10_appendInput, we_X10_appendInput, wi_X10, wc_X10_appendInput, by decide +kernel⟩
theorem yi_X1_hasRoomFor : YV yX1_hasRoomFor RX1 cX1_hasRoomFor 2 (some FieldType.boolean) 1 := ⟨wn_X1_hasRoomFor, we_X1_hasRoomFor, wi_X1, wc_X1_hasRoomFor, by decide +kernel⟩
theorem yi_X1_putFour : YV yX1_putFour RX1 cX1_putFour 3 none 1 := ⟨wn_X1_putFour, we_X1_putFour, wi_X1, wc_X1_putFour, by decide +kernel⟩
theorem yi_X10_truncateInput : YV yX10_truncateInput RX10 cX10_truncateInput 2 (some FieldType.int) 1 := ⟨wn_X10_truncateInput, we_X10_truncateInput, wi_X10, wc_X10_truncateInput, by decide +kernel⟩
theorem yi_X10_requireRange : YV yX10_requireRange RX10 cX10_requireRange 4 none 3 := ⟨wn_X10_requireRange, we_X10_requireRange, wi_X10, wc_X10_requireRange, by decide +kernel⟩
theorem yi_X10_load : YV yX10_load RX10 cX10_load 3 (some FieldType.int) 0 := ⟨wn_X10_load, we_X10_load, wi_X10, wc_X10_load, by decide +kernel⟩
theorem yi_X8_clear : YV yX8_clear RX8 cX8_clear 2 none 0 := ⟨wn_X8_clear, we_X8_clear, wi_X8, wc_X8_clear, by decide +kernel⟩
theorem yi_X3_remember : YV yX3_remember RX3 cX3_remember 2 none 1 := ⟨wn_X3_remember, we_X3_remember, wi_X3, wc_X3_remember, by decide +kernel⟩
theorem yi_X10_peopleOf : YV yX10_peopleOf RX10 cX10_peopleOf 2 (some FieldType.int) 1 := ⟨wn_X10_peopleOf, we_X10_peopleOf, wi_X10, wc_X10_peopleOf, by decide +kernel⟩
theorem yi_X10_requireVillage : YV yX10_requireVillage RX10 cX10_requireVillage 2 none 1 := ⟨wn_X10_requireVillage, we_X10_requireVillage, wi_X10, wc_X10_requireVillage, by decide +kernel⟩
theorem yi_X10_trustOf : YV yX10_trustOf RX10 cX10_trustOf 2 (some FieldType.int) 1 := ⟨wn_X10_trustOf, we_X10_trustOf, wi_X10, wc_X10_trustOf, by decide +kernel⟩
theorem yi_X10_oddsOf : YV yX10_oddsOf RX10 cX10_oddsOf 2 (some FieldType.int) 1 := ⟨wn_X10_oddsOf, we_X10_oddsOf, wi_X10, wc_X10_oddsOf, by decide +kernel⟩
theorem yi_X10_drawnThisYear : YV yX10_drawnThisYear RX10 cX10_drawnThisYear 2 (some FieldType.int) 1 := ⟨wn_X10_drawnThisYear, we_X10_drawnThisYear, wi_X10, wc_X10_drawnThisYear, by decide +kernel⟩
theorem yi_X10_weatherOf : YV yX10_weatherOf RX10 cX10_weatherOf 3 (some FieldType.int) 2 := ⟨wn_X10_weatherOf, we_X10_weatherOf, wi_X10, wc_X10_weatherOf, by decide +kernel⟩
theorem yi_X10_requireForecast : YV yX10_requireForecast RX10 cX10_requireForecast 4 (some FieldType.int) 2 := ⟨wn_X10_requireForecast, we_X10_requireForecast, wi_X10, wc_X10_requireForecast, by decide +kernel⟩
theorem yi_X10_soldOf : YV yX10_soldOf RX10 cX10_soldOf 3 (some FieldType.int) 2 := ⟨wn_X10_soldOf, we_X10_soldOf, wi_X10, wc_X10_soldOf, by decide +kernel⟩
theorem yi_X10_paidOf : YV yX10_paidOf RX10 cX10_paidOf 3 (some FieldType.int) 2 := ⟨wn_X10_paidOf, we_X10_paidOf, wi_X10, wc_X10_paidOf, by decide +kernel⟩
theorem yi_X10_pageOf : YV yX10_pageOf RX10 cX10_pageOf 3 (some FieldType.int) 2 := ⟨wn_X10_pageOf, we_X10_pageOf, wi_X10, wc_X10_pageOf, by decide +kernel⟩
theorem yi_X10_forecastAt : YV yX10_forecastAt RX10 cX10_forecastAt 2 (some FieldType.int) 1 := ⟨wn_X10_forecastAt, we_X10_forecastAt, wi_X10, wc_X10_forecastAt, by decide +kernel⟩
theorem yi_X10_requirePage : YV yX10_requirePage RX10 cX10_requirePage 2 none 1 := ⟨wn_X10_requirePage, we_X10_requirePage, wi_X10, wc_X10_requirePage, by decide +kernel⟩
theorem yi_X10_regretAt : YV yX10_regretAt RX10 cX10_regretAt 2 (some FieldType.int) 1 := ⟨wn_X10_regretAt, we_X10_regretAt, wi_X10, wc_X10_regretAt, by decide +kernel⟩
theorem yi_X10_print : YV yX10_print RX10 cX10_print 4 (some FieldType.int) 3 := ⟨wn_X10_print, we_X10_print, wi_X10, wc_X10_print, by decide +kernel⟩
theorem yi_X10_retract : YV yX10_retract RX10 cX10_retract 2 (some FieldType.int) 1 := ⟨wn_X10_retract, we_X10_retract, wi_X10, wc_X10_retract, by decide +kernel⟩
theorem yi_X10_setTrust : YV yX10_setTrust RX10 cX10_setTrust 4 (some FieldType.int) 2 := ⟨wn_X10_setTrust, we_X10_setTrust, wi_X10, wc_X10_setTrust, by decide +kernel⟩
theorem yi_X10_setPeople : YV yX10_setPeople RX10 cX10_setPeople 4 (some FieldType.int) 2 := ⟨wn_X10_setPeople, we_X10_setPeople, wi_X10, wc_X10_setPeople, by decide +kernel⟩
theorem yi_X10_setOdds : YV yX10_setOdds RX10 cX10_setOdds 4 (some FieldType.int) 2 := ⟨wn_X10_setOdds, we_X10_setOdds, wi_X10, wc_X10_setOdds, by decide +kernel⟩
theorem yi_X10_pass : YV yX10_pass RX10 cX10_pass 3 (some FieldType.int) 1 := ⟨wn_X10_pass, we_X10_pass, wi_X10, wc_X10_pass, by decide +kernel⟩
theorem nmax_nI {a b : Nat} (ha : a < 2 ^ 31) (hb : b < 2 ^ 31) : (if nI a < nI b then nI b else nI a) = nI (max a b) := by
  by_cases h : a < b
  · rw [if_pos ((nI_ltI ha hb).mpr h), Nat.max_eq_right (by omega)]
  · rw [if_neg (fun c => h ((nI_ltI ha hb).mp c)), Nat.max_eq_left (by omega)]
theorem nmin_nI {a b : Nat} (ha : a < 2 ^ 31) (hb : b < 2 ^ 31) : (if nI b < nI a then nI b else nI a) = nI (min a b) := by
  by_cases h : b < a
  · rw [if_pos ((nI_ltI hb ha).mpr h), Nat.min_eq_right (by omega)]
  · rw [if_neg (fun c => h ((nI_ltI hb ha).mp c)), Nat.min_eq_left (by omega)]


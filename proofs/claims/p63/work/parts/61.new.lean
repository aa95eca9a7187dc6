theorem nI_nneg {z : Nat} (h : z < 2 ^ 31) : ¬ nI z < 0 := fun c => by
  rw [Int32.lt_iff_toInt_lt, nI_toInt h, show (0 : Int32).toInt = 0 by decide] at c
  omega
/-- what the tables say of a constructor -/
def YC (y : MethodName) (cc : ByteArray) (maxL : Nat) (na : Nat) : Prop := Cond.instanceMethod y ∈ GW ∧ Cond.initialized y.cls ∈ GW ∧ Cond.code y cc maxL none ∈ GW ∧ y.name = "<init>" ∧ (y.cls ≠ "java/lang/invoke/MethodHandle" ∧ y.cls ≠ "java/lang/invoke/VarHandle" ∧ (parseMethodDescriptor y.desc).map (fun d => d.parameters.length) = some na)
theorem gwI {w0 : Cond} {y : MethodName} {cc : ByteArray} {maxL : Nat} {ret : Option FieldType} (h : Cond.code y cc maxL ret ∈ GW) : GoodIn (w0 :: GW) (Cond.code y cc maxL ret :: GW) := fun w hw =>
  ⟨(List.mem_cons.mp hw).elim (fun e => List.mem_cons_of_mem _ (e ▸ h)) (fun h => List.mem_cons_of_mem _ h), gw_good w ((List.mem_cons.mp hw).elim (fun e => e ▸ h) id)⟩
section JNEW
variable {x : JX} {G : gT} {R : Room} {cc : ByteArray} {w0 : Cond} {own : String} {nL : Nat} {ws : va_W} {k n : Nat} {lv : List (Nat × Value)} {st rest : List Value} {pc : Nat}
theorem J_perm {ws' : va_W} (h : ws.Perm ws') (kk : J x G ws' k n lv st pc) : J x G ws k n lv st pc :=
  fun H locs ls hP hD hS hL => kk H locs ls (va_P_perm h hP) (va_D_perm h hD) hS hL
theorem J_new (hC : JC x G R cc w0 own nL) {C : String} {T : u_T} {N ci idx : Nat} {ty : Nat → FieldType} (fs : List Value) (hin : ∀ w ∈ u_ws C T N, w ∈ GW) (hc : vwCl[ci]? = some (C, T, N)) (hty : ∀ j, j < N → parseFieldDescriptor (T j).2.2.1 = some (ty j)) (hd : decode cc pc = .ok (.new idx, 3)) (hcl : Cond.classLink own idx C ∈ GW) (hins : Cond.instantiable C N ∈ GW) (hini : Cond.initialized C ∈ GW)
    (hfs : ∀ j, j < N → defaultValue (ty j) = vp_V fs j) (hk : k + 1 ≤ R.cells) (hn : n + N ≤ R.slots) (kk : ∀ q, J x G (ws ++ [(q, .inr (ci, fs))]) (k + 1) (n + N) lv (.ref q :: st) (pc + 3)) : J x G ws k n lv st pc := by
  intro H locs ls hP hD hS hL
  have hRR : jR x = R := hC.2.2.2.2.2.2.2.1
  exact va_new hC.1 hC.2.1 hC.2.2.2.2.1 (fun w h => List.mem_cons_of_mem _ (hin w h)) ty hty hC.2.2.2.1 (hC.2.2.2.2.1 _ (List.mem_cons_of_mem _ hcl)) (hC.2.2.2.2.1 _ (List.mem_cons_of_mem _ hins)) (hC.2.2.2.2.1 _ (List.mem_cons_of_mem _ hini)) hC.2.2.2.2.2.1 hP hD hS hC.2.2.2.2.2.2.1 hc hfs (by rw [hRR]; exact hk) (by rw [hRR]; exact hn) hd (fun q H1 hP1 hD1 hS1 => kk q H1 locs ls hP1 hD1 hS1 hL)
theorem J_newI (hC : JC x G R cc w0 own nL) {N : Nat} (hd : decode cc pc = .ok (.newarray .int, 2)) (hN : N < 1000000) (hk : k + 1 ≤ R.cells) (hn : n + N ≤ R.slots) (kk : ∀ q, J x G (ws ++ [(q, .inl (gc G 0, N, .inl (fun _ => 0)))]) (k + 1) (n + N) lv (.ref q :: st) (pc + 2)) : J x G ws k n lv (.int (nI N) :: st) pc := by
  intro H locs ls hP hD hS hL
  have hRR : jR x = R := hC.2.2.2.2.2.2.2.1
  have hK := hC.2.2.2.2.2.1
  refine va_newa (atype := .int) (a0 := (N, .inl (fun _ => 0))) (N' := N) (ty := .int) hC.1 hC.2.1 (hC.2.2.2.2.1 _ (List.mem_cons_of_mem _ wa_int)) rfl hK hP hD hS hC.2.2.2.2.2.2.1 (fun cA => by rw [vp_cell_i] <;> rfl) (nI_nneg (by omega)) (nI_clamp (by omega)) (by show N * 4 ≤ _; omega) (by rw [hRR]; exact hk) (by rw [hRR]; exact hn) hd (fun q cA H1 hK1 hP1 hD1 hS1 => ?_)
  have e : cA = gc G 0 := by
    have h1 := (hK1.2 (tyl G).length (cA, .int) (by rw [List.getElem?_append_right (Nat.le_refl _), Nat.sub_self]; rfl)).2
    have h2 := (hK.2 0 (gc G 0, .int) rfl).2
    exact Option.some.inj (h1.symm.trans h2)
  subst e
  exact kk q H1 locs ls hP1 hD1 hS1 hL
theorem J_newB (hC : JC x G R cc w0 own nL) {N : Nat} (hd : decode cc pc = .ok (.newarray .byte, 2)) (hN : N < 1000000) (hk : k + 1 ≤ R.cells) (hn : n + N ≤ R.slots) (kk : ∀ q, J x G (ws ++ [(q, .inl (gc G 1, N, .inl (fun _ => 0)))]) (k + 1) (n + N) lv (.ref q :: st) (pc + 2)) : J x G ws k n lv (.int (nI N) :: st) pc := by
  intro H locs ls hP hD hS hL
  have hRR : jR x = R := hC.2.2.2.2.2.2.2.1
  have hK := hC.2.2.2.2.2.1
  refine va_newa (atype := .byte) (a0 := (N, .inl (fun _ => 0))) (N' := N) (ty := .byte) hC.1 hC.2.1 (hC.2.2.2.2.1 _ (List.mem_cons_of_mem _ wa_byte)) rfl hK hP hD hS hC.2.2.2.2.2.2.1 (fun cA => by rw [vp_cell_i] <;> rfl) (nI_nneg (by omega)) (nI_clamp (by omega)) (by show N * 1 ≤ _; omega) (by rw [hRR]; exact hk) (by rw [hRR]; exact hn) hd (fun q cA H1 hK1 hP1 hD1 hS1 => ?_)
  have e : cA = gc G 1 := by
    have h1 := (hK1.2 (tyl G).length (cA, .byte) (by rw [List.getElem?_append_right (Nat.le_refl _), Nat.sub_self]; rfl)).2
    have h2 := (hK.2 1 (gc G 1, .byte) rfl).2
    exact Option.some.inj (h1.symm.trans h2)
  subst e
  exact kk q H1 locs ls hP1 hD1 hS1 hL
theorem J_newZ (hC : JC x G R cc w0 own nL) {N : Nat} (hd : decode cc pc = .ok (.newarray .boolean, 2)) (hN : N < 1000000) (hk : k + 1 ≤ R.cells) (hn : n + N ≤ R.slots) (kk : ∀ q, J x G (ws ++ [(q, .inl (gc G 2, N, .inl (fun _ => 0)))]) (k + 1) (n + N) lv (.ref q :: st) (pc + 2)) : J x G ws k n lv (.int (nI N) :: st) pc := by
  intro H locs ls hP hD hS hL
  have hRR : jR x = R := hC.2.2.2.2.2.2.2.1
  have hK := hC.2.2.2.2.2.1
  refine va_newa (atype := .boolean) (a0 := (N, .inl (fun _ => 0))) (N' := N) (ty := .boolean) hC.1 hC.2.1 (hC.2.2.2.2.1 _ (List.mem_cons_of_mem _ wa_boolean)) rfl hK hP hD hS hC.2.2.2.2.2.2.1 (fun cA => by rw [vp_cell_i] <;> rfl) (nI_nneg (by omega)) (nI_clamp (by omega)) (by show N * 1 ≤ _; omega) (by rw [hRR]; exact hk) (by rw [hRR]; exact hn) hd (fun q cA H1 hK1 hP1 hD1 hS1 => ?_)
  have e : cA = gc G 2 := by
    have h1 := (hK1.2 (tyl G).length (cA, .boolean) (by rw [List.getElem?_append_right (Nat.le_refl _), Nat.sub_self]; rfl)).2
    have h2 := (hK.2 2 (gc G 2, .boolean) rfl).2
    exact Option.some.inj (h1.symm.trans h2)
  subst e
  exact kk q H1 locs ls hP1 hD1 hS1 hL
theorem J_newQ (hC : JC x G R cc w0 own nL) {N idx : Nat} (hd : decode cc pc = .ok (.anewarray idx, 3)) (hcl : Cond.classLink own idx RX8 ∈ GW) (hN : N < 1000000) (hk : k + 1 ≤ R.cells) (hn : n + N ≤ R.slots) (kk : ∀ q, J x G (ws ++ [(q, .inl (gc G 3, N, .inr (.inr (.inr (.inr (fun _ => none))))))]) (k + 1) (n + N) lv (.ref q :: st) (pc + 3)) : J x G ws k n lv (.int (nI N) :: st) pc := by
  intro H locs ls hP hD hS hL
  have hRR : jR x = R := hC.2.2.2.2.2.2.2.1
  have hK := hC.2.2.2.2.2.1
  have hE := hC.2.2.2.2.2.2.2.2.2
  refine va_newq (C := RX8) (N' := N) hC.1 hC.2.1 hC.2.2.2.1 (hC.2.2.2.2.1 _ (List.mem_cons_of_mem _ hcl)) hE.2.1.1 hK hP hD hS hC.2.2.2.2.2.2.1 (nI_nneg (by omega)) (nI_clamp (by omega)) (by omega) (by rw [hRR]; exact hk) (by rw [hRR]; exact hn) hd (fun q cA H1 hK1 hP1 hD1 hS1 => ?_)
  have e : cA = gc G 3 := by
    obtain ⟨_, _, _, _, _, h1⟩ := (hK1.2 (tyl G).length (cA, .object RX8) (by rw [List.getElem?_append_right (Nat.le_refl _), Nat.sub_self]; rfl)).2
    obtain ⟨_, _, _, _, _, h2⟩ := (hK.2 3 (gc G 3, .object RX8) rfl).2
    exact Option.some.inj (h1.symm.trans h2)
  subst e
  exact kk q H1 locs ls hP1 hD1 hS1 hL
theorem J_aast (hC : JC x G R cc w0 own nL) {a m i v : Nat} {f : Nat → Option Nat} {vs : List Value} {ws' : va_W} (hd : decode cc pc = .ok (.aastore, 1)) (q qk : Nat) (hq : ws[q]? = some (a, .inl (gc G 3, m, .inr (.inr (.inr (.inr f)))))) (hv : ws[qk]? = some (v, .inr (8, vs))) (hi : i < m) (hm : m < 2 ^ 31)
    (hw : ws.set q (a, .inl (gc G 3, m, .inr (.inr (.inr (.inr (va_up f i (some v))))))) = ws') (kk : J x G ws' k n lv st (pc + 1)) : J x G ws k n lv (.ref v :: .int (nI i) :: .ref a :: st) pc := by
  subst hw
  intro H locs ls hP hD hS hL
  refine va_astq (r := (RX8, TX8, 14)) hC.1 hC.2.1 hC.2.2.2.2.2.1 hP hD hS q 3 qk 8 hq rfl hv rfl (vp_in_nI hi hm) hd (fun H1 locs1 hP1 hD1 hS1 => ?_)
  rw [nI_clamp (by omega)] at hP1 hD1
  exact kk H1 locs1 ls hP1 hD1 hS1 hL
/-- the call of Object's constructor -/
theorem J_oinit (hC : JC x G R cc w0 own nL) {b idx : Nat} (hd : decode cc pc = .ok (.invokespecial idx, 3)) (hl : Cond.methodLink own idx objectInit ∈ GW) (hf : 1 ≤ R.frames) (hlo : (st.map fun v => v.category).sum + 12 ≤ R.locals) (kk : J x G ws k n lv st (pc + 3)) : J x G ws k n lv (.ref b :: st) pc := by
  intro H locs ls hP hD hS hL
  have hRR : jR x = R := hC.2.2.2.2.2.2.2.1
  exact W.objInit hC.1 hC.2.1 hC.2.2.2.1 (hC.2.2.2.2.1 _ (List.mem_cons_of_mem _ hl)) (hC.2.2.2.2.1 _ (List.mem_cons_of_mem _ wn_objectInit)) (hC.2.2.2.2.1 _ (List.mem_cons_of_mem _ wc_objectInit)) rfl hL.1 rfl hd (by rw [hRR]; exact hf) (by rw [hRR]; show 2 * 0 + _ + 12 ≤ _; omega) (kk H locs ls hP hD hS hL)
theorem J_putR (hC : JC x G R cc w0 own nL) {C : String} {T : u_T} {N ci idx a : Nat} {ty : Nat → FieldType} {fs : List Value} {v : Value} {ws' : va_W} (hin : ∀ w ∈ u_ws C T N, w ∈ GW) (hc : vwCl[ci]? = some (C, T, N)) (hty : ∀ j, j < N → parseFieldDescriptor (T j).2.2.1 = some (ty j)) (hnm : ∀ a, a < N → ∀ b, b < N → a ≠ b → (T a).2.1 ≠ (T b).2.1) (hi : (jt x).name = "<init>") (hd : decode cc pc = .ok (.putfield idx, 3)) (q kf : Nat) (hk : kf < N)
    (hlink : Cond.fieldLink own idx (T kf).1 (T kf).2.1 (T kf).2.2.1 ∈ GW) (hfin : (T kf).2.2.2 = true) (hdecl : (T kf).1 = own) (hq : ws[q]? = some (a, .inr (ci, fs))) (hl : kf < fs.length) (hn : narrow (ty kf) v = v) (hf : fits (ty kf) v = true) (hw : ws.set q (a, .inr (ci, fs.set kf v)) = ws') (kk : J x G ws' k n lv st (pc + 3)) : J x G ws k n lv (v :: .ref a :: st) pc := J_putF hC hin hc hty hnm hi hd q kf hk hlink hfin hdecl hq hl hn hf hw kk
end JNEW
theorem J_callC {S : Type} {x : JX} {G : gT} {R : Room} {cc : ByteArray} {w0 : Cond} {own : String} {nL : Nat} {ws : va_W} {k n : Nat} {lv : List (Nat × Value)} {st rest : List Value} {pc : Nat} {idx maxLY na : Nat} {y : MethodName} {ccY : ByteArray} {rmY : Room} {As : List Value} {b : Nat} {post : S → Prop} {W1 : S → va_W} (hC : JC x G R cc w0 own nL) (hd : decode cc pc = .ok (.invokespecial idx, 3)) (hl : Cond.methodLink own idx y ∈ GW) (hY : YC y ccY maxLY na)
    (hM : MV (jl x) y ccY maxLY rmY (.ref b :: As) G ws post W1)
    (hst : st = As.reverse ++ .ref b :: rest) (hna : As.length = na) (hR : rmY.frames + 1 ≤ R.frames ∧ 8 + (maxLY + 11) + rmY.locals ≤ R.locals) (hcat : (rest.map fun v => v.category).sum ≤ 8) (hk : k + rmY.cells ≤ R.cells) (hn : n + rmY.slots ≤ R.slots)
    (kk : ∀ (u : S), post u → J x G (W1 u) (k + rmY.cells) (n + rmY.slots) lv rest (pc + 3)) : J x G ws k n lv st pc := by
  intro H locs ls hP hD hS hL
  have hK := hC.2.2.2.2.2.1
  have hRR : jR x = R := hC.2.2.2.2.2.2.2.1
  have hE := hC.2.2.2.2.2.2.2.2.2
  have hF := va_A_in hD hS hC.2.2.2.2.2.2.1
  have ht0 := hC.2.2.2.2.1
  refine va_callv (va_runI (As := As) (rest := rest) ⟨hC.1, hC.2.1, hC.2.2.1, hC.2.2.2.1, hC.2.2.2.2.1⟩ (hM H.size) (cwI na ht0 (gwI hY.2.2.1) rfl rfl rfl (ht0 _ (List.mem_cons_of_mem _ hY.2.1)) (ht0 _ (List.mem_cons_of_mem _ hl)) (ht0 _ (List.mem_cons_of_mem _ hY.1)) hY.2.2.2.1 hY.2.2.2.2 (by rw [hRR]; exact hR)) ⟨gP_blind _ _ _ _, fun U hU hW => ⟨rfl, by rw [hU], by rw [hU]; exact hP, va_K.moved hW.alike hK, hD.weaken (fun _ _ _ _ => trivial), hE.step hW (by rw [hU]; intro q hq hn; rw [hC.2.2.2.2.2.2.2.2.1] at hS; exact hS.2.1 q hq hn) hF⟩⟩ rfl hna (hL.1.trans hC.2.2.1) hst (lv_room hcat) hd (by rw [hRR]; exact ⟨hk, hn⟩)) hS (fun q _ h => hF q h) hF (fun u t H1 locs1 ht hvm hw hB hz hk1 hS1 => ?_)
  obtain ⟨hP1, hK1, hD1⟩ := hB
  rw [ht] at hP1
  exact kk u hw H1 locs1 ls hP1 (hD1.weaken (fun _ _ _ h => hF _ h)) hS1 hL
theorem J_callCN {S : Type} {x : JX} {G : gT} {R : Room} {cc : ByteArray} {w0 : Cond} {own : String} {nL : Nat} {ws : va_W} {k n : Nat} {lv : List (Nat × Value)} {st rest : List Value} {pc : Nat} {idx maxLY na : Nat} {y : MethodName} {ccY : ByteArray} {rmY : Room} {As : List Value} {b : Nat} {host : String} {post : S → Prop} {W1 : S → va_W} (hC : JC x G R cc w0 own nL) (hd : decode cc pc = .ok (.invokespecial idx, 3)) (hl : Cond.methodLinkNest own idx y host ∈ NWL) (hY : YC y ccY maxLY na)
    (hM : MV (jl x) y ccY maxLY rmY (.ref b :: As) G ws post W1)
    (hst : st = As.reverse ++ .ref b :: rest) (hna : As.length = na) (hR : rmY.frames + 1 ≤ R.frames ∧ 8 + (maxLY + 11) + rmY.locals ≤ R.locals) (hcat : (rest.map fun v => v.category).sum ≤ 8) (hk : k + rmY.cells ≤ R.cells) (hn : n + rmY.slots ≤ R.slots)
    (kk : ∀ (u : S), post u → J x G (W1 u) (k + rmY.cells) (n + rmY.slots) lv rest (pc + 3)) : J x G ws k n lv st pc := by
  intro H locs ls hP hD hS hL
  have hK := hC.2.2.2.2.2.1
  have hRR : jR x = R := hC.2.2.2.2.2.2.2.1
  have hE := hC.2.2.2.2.2.2.2.2.2
  have hF := va_A_in hD hS hC.2.2.2.2.2.2.1
  have ht0 := hC.2.2.2.2.1
  refine va_callv (va_runIN (As := As) (rest := rest) ⟨hC.1, hC.2.1, hC.2.2.1, hC.2.2.2.1, hC.2.2.2.2.1⟩ (hM H.size) ⟨va_cnB na ht0 (gwI hY.2.2.1) rfl rfl rfl (hE.1 _ hl) (ht0 _ (List.mem_cons_of_mem _ hY.2.1)) hY.2.2.2.2 (by rw [hRR]; exact hR), hY.2.2.2.1, ht0 _ (List.mem_cons_of_mem _ hY.1)⟩ ⟨gP_blind _ _ _ _, fun U hU hW => ⟨rfl, by rw [hU], by rw [hU]; exact hP, va_K.moved hW.alike hK, hD.weaken (fun _ _ _ _ => trivial), hE.step hW (by rw [hU]; intro q hq hn; rw [hC.2.2.2.2.2.2.2.2.1] at hS; exact hS.2.1 q hq hn) hF⟩⟩ rfl hna (hL.1.trans hC.2.2.1) hst (lv_room hcat) hd (by rw [hRR]; exact ⟨hk, hn⟩)) hS (fun q _ h => hF q h) hF (fun u t H1 locs1 ht hvm hw hB hz hk1 hS1 => ?_)
  obtain ⟨hP1, hK1, hD1⟩ := hB
  rw [ht] at hP1
  exact kk u hw H1 locs1 ls hP1 (hD1.weaken (fun _ _ _ h => hF _ h)) hS1 hL
theorem yc_X0 : YC yX0_init cX0_init 1 0 := ⟨wn_X0_init, wi_X0, wc_X0_init, by decide +kernel, by decide +kernel⟩
theorem yc_X1 : YC yX1_init cX1_init 1 0 := ⟨wn_X1_init, wi_X1, wc_X1_init, by decide +kernel, by decide +kernel⟩
theorem yc_X2 : YC yX2_init cX2_init 1 0 := ⟨wn_X2_init, wi_X2, wc_X2_init, by decide +kernel, by decide +kernel⟩
theorem yc_X3 : YC yX3_init cX3_init 2 0 := ⟨wn_X3_init, wi_X3, wc_X3_init, by decide +kernel, by decide +kernel⟩
theorem yc_X4 : YC yX4_init cX4_init 1 0 := ⟨wn_X4_init, wi_X4, wc_X4_init, by decide +kernel, by decide +kernel⟩
theorem yc_X5 : YC yX5_init cX5_init 3 2 := ⟨wn_X5_init, wi_X5, wc_X5_init, by decide +kernel, by decide +kernel⟩
theorem yc_X6 : YC yX6_init cX6_init 2 1 := ⟨wn_X6_init, wi_X6, wc_X6_init, by decide +kernel, by decide +kernel⟩
theorem yc_X7 : YC yX7_init cX7_init 1 0 := ⟨wn_X7_init, wi_X7, wc_X7_init, by decide +kernel, by decide +kernel⟩
theorem yc_X8 : YC yX8_init cX8_init 1 0 := ⟨wn_X8_init, wi_X8, wc_X8_init, by decide +kernel, by decide +kernel⟩
theorem yc_X9 : YC yX9_init cX9_init 1 0 := ⟨wn_X9_init, wi_X9, wc_X9_init, by decide +kernel, by decide +kernel⟩
theorem yc_X10 : YC yX10_init cX10_init 3 0 := ⟨wn_X10_init, wi_X10, wc_X10_init, by decide +kernel, by decide +kernel⟩
theorem J_sub {x : JX} {G : gT} {ws ws' : va_W} (wr : va_W) {k n : Nat} {lv : List (Nat × Value)} {st : List Value} {pc : Nat} (h : ws.Perm (ws' ++ wr)) (kk : J x G ws' k n lv st pc) : J x G ws k n lv st pc := fun H locs ls hP hD hS hL => by
  have hd := va_D_iff.mp (va_D_perm h hD)
  have hp := va_P_iff.mp (va_P_perm h hP)
  refine kk H locs ls (va_P_iff.mpr fun q hq => hp q (List.mem_append_left _ hq)) (va_D_iff.mpr ⟨?_, fun q hq => hd.2 q (List.mem_append_left _ hq)⟩) hS hL
  have := hd.1
  rw [List.map_append, List.nodup_append] at this
  exact this.1
/-- a State, a row of zeros -/
def Z0 : CT := fun _ _ => 0
theorem cnt_sum {α : Type} [DecidableEq α] (z : α) : ∀ L : List α, L.count z = (L.map (fun y => if y = z then 1 else 0)).sum
  | [] => rfl
  | y :: L => by
    rw [List.count_cons, cnt_sum z L, List.map_cons, List.sum_cons, Nat.add_comm]
    by_cases h : y = z
    · subst h; simp
    · simp [h]
/-- two lists are permutations of one another if every weight says so -/
theorem permS {α : Type} {L M : List α} (h : ∀ e : α → Nat, (L.map e).sum = (M.map e).sum) : L.Perm M := by
  haveI : DecidableEq α := Classical.typeDecidableEq α
  rw [List.perm_iff_count]
  intro z
  rw [cnt_sum, cnt_sum, h]


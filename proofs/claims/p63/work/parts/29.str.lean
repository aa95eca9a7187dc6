/-! STRINGS: constants and the JDK's own methods -/
section JSTR
variable {x : JX} {G : gT} {R : Room} {cc : ByteArray} {w0 : Cond} {own : String} {nL : Nat} {ws : va_W} {k n : Nat} {lv : List (Nat × Value)} {st : List Value} {pc : Nat}
theorem JC_x (hC : JC x G R cc w0 own nL) : xE G (jA x) (js x) := hC.2.2.2.2.2.2.2.2.2
theorem JC_h (hC : JC x G R cc w0 own nL) : jH x = (js x).heap := hC.2.2.2.2.2.2.2.2.1
theorem JC_w (hC : JC x G R cc w0 own nL) {w : Cond} (h : w ∈ GW) : w.before (ja x) (js x) = true := hC.2.2.2.2.1 w (List.mem_cons_of_mem _ h)
theorem JC_S (hC : JC x G R cc w0 own nL) : vS G.2.2.1 G.2.2.2 (jA x) (js x) (js x).heap := (JC_x hC).2.2.2.2.2.2.2
theorem JC_R (hC : JC x G R cc w0 own nL) : ∀ i : Nat, i < 14 → vk_R (SKo.getD i "") (SKi.getD i 0) (SKt.getD i "") (G.2.2.1 i) (js x) := (JC_x hC).2.2.2.2.2.2.1
theorem SKn_le : ∀ i, i < 14 → SKn.getD i 0 ≤ 182 := by decide
theorem J_i2c (hC : JC x G R cc w0 own nL) {a v : Int32} (hd : decode cc pc = .ok (.i2c, 1)) (hv : (a.toUInt32 % 65536).toInt32 = v) (kk : J x G ws k n lv (.int v :: st) (pc + 1)) : J x G ws k n lv (.int a :: st) pc :=
  fun H locs ls hP hD hS hL => lv_i2c hC.1 hC.2.1 hd hv (kk H locs ls hP hD hS hL)
theorem J_ldcS (hC : JC x G R cc w0 own nL) {i idx : Nat} (hi : i < 14) (ho : SKo.getD i "" = own) (hx : SKi.getD i 0 = idx) (hd : decode cc pc = .ok (.ldc idx, 2)) (kk : J x G ws k n lv (.ref (G.2.2.1 i) :: st) (pc + 2)) : J x G ws k n lv st pc := by
  intro H locs ls hP hD hS hL
  have hr := JC_R hC i hi
  rw [ho, hx] at hr
  exact va_ldcS hC.1 hC.2.1 hC.2.2.2.1 hr hd (kk H locs ls hP hD hS hL)
theorem J_ldcWS (hC : JC x G R cc w0 own nL) {i idx : Nat} (hi : i < 14) (ho : SKo.getD i "" = own) (hx : SKi.getD i 0 = idx) (hd : decode cc pc = .ok (.ldc_w idx, 3)) (kk : J x G ws k n lv (.ref (G.2.2.1 i) :: st) (pc + 3)) : J x G ws k n lv st pc := by
  intro H locs ls hP hD hS hL
  have hr := JC_R hC i hi
  rw [ho, hx] at hr
  intro T hT X
  obtain ⟨t, a1, b1⟩ := kk H locs ls hP hD hS hL T hT X
  refine ⟨t, ?_, b1⟩
  obtain ⟨kk', cf, i', a', hk, hcf, hcp, -, hrr, hev'⟩ := Cond.stringRef_spec hC.2.2.2.1 (args := #[]) hr.1
  cases hr.2.symm.trans hev'
  obtain ⟨k', hk', he⟩ := X.warmed.alike.2.2 _ _ hk
  have hr' : k'.resolved[idx]? = some (some (.string (G.2.2.1 i))) := by
    rcases X.warmed.entry hk hk' idx with h | ⟨h, -⟩
    · rw [h]; exact hrr
    · rw [hrr] at h; cases h
  have hdg : decode (jc x).code (F0 (jm x) pc ls st).pc = .ok (.ldc_w idx, 3) := by rw [hC.2.1]; exact hd
  jvm_step X.here [hC.1, hdg, ldc_w.wp_string (e := je x) (s := T) (f := F0 (jm x) pc ls st) X.here.top hk' (by rw [he]; exact hcf) hcp hr']
  exact a1
/-- getstatic: COMPACT_STRINGS is 1; SIOOBE_FORMATTER is some reference or null -/
theorem J_gz (hC : JC x G R cc w0 own nL) {idx : Nat} (hd : decode cc pc = .ok (.getstatic idx, 3)) (hl : Cond.fieldLink own idx "java/lang/String" "COMPACT_STRINGS" "Z" ∈ GW) (kk : J x G ws k n lv (.int 1 :: st) (pc + 3)) : J x G ws k n lv st pc := by
  intro H locs ls hP hD hS hL
  have hS' := hS
  rw [JC_h hC] at hS'
  exact va_gets hC.1 hC.2.1 (JC_x hC).2.2.2.2.1 hS' hC.2.2.2.1 (JC_w hC hl) (fun _ h => h) hd (kk H locs ls hP hD hS hL)
theorem J_gq (hC : JC x G R cc w0 own nL) {idx : Nat} (hd : decode cc pc = .ok (.getstatic idx, 3)) (hl : Cond.fieldLink own idx "jdk/internal/util/Preconditions" "SIOOBE_FORMATTER" "Ljava/util/function/BiFunction;" ∈ GW) (kk : ∀ v : Value, (v = .null ∨ ∃ t, v = .ref t) → J x G ws k n lv (v :: st) (pc + 3)) : J x G ws k n lv st pc := by
  intro H locs ls hP hD hS hL
  have hS' := hS
  rw [JC_h hC] at hS'
  rcases (JC_x hC).2.2.2.2.2.1 with h | ⟨t, h⟩
  · exact va_gets hC.1 hC.2.1 h hS' hC.2.2.2.1 (JC_w hC hl) (fun _ h => h) hd (kk .null (Or.inl rfl) H locs ls hP hD hS hL)
  · exact va_gets hC.1 hC.2.1 h hS' hC.2.2.2.1 (JC_w hC hl) (fun _ h => h) hd (kk (.ref t) (Or.inr ⟨t, rfl⟩) H locs ls hP hD hS hL)
theorem J_sgv (hC : JC x G R cc w0 own nL) {i idx : Nat} (hi : i < 14) (hd : decode cc pc = .ok (.getfield idx, 3)) (hl : Cond.fieldLink own idx "java/lang/String" "value" "[B" ∈ GW) (kk : J x G ws k n lv (.ref (G.2.2.2 i) :: st) (pc + 3)) : J x G ws k n lv (.ref (G.2.2.1 i) :: st) pc := by
  intro H locs ls hP hD hS hL
  have hS' := hS
  rw [JC_h hC] at hS'
  exact vk_getf hC.1 hC.2.1 (JC_S hC i hi).2.2.1 hS' hC.2.2.2.1 (JC_w hC hl) (fun _ h => h) hd (kk H locs ls hP hD hS hL)
theorem J_sgc (hC : JC x G R cc w0 own nL) {i idx : Nat} (hi : i < 14) (hd : decode cc pc = .ok (.getfield idx, 3)) (hl : Cond.fieldLink own idx "java/lang/String" "coder" "B" ∈ GW) (kk : J x G ws k n lv (.int 0 :: st) (pc + 3)) : J x G ws k n lv (.ref (G.2.2.1 i) :: st) pc := by
  intro H locs ls hP hD hS hL
  have hS' := hS
  rw [JC_h hC] at hS'
  exact vk_getf hC.1 hC.2.1 (JC_S hC i hi).2.1 hS' hC.2.2.2.1 (JC_w hC hl) (fun _ h => h) hd (kk H locs ls hP hD hS hL)
theorem J_slen (hC : JC x G R cc w0 own nL) {i : Nat} (hi : i < 14) (hd : decode cc pc = .ok (.arraylength, 1)) (kk : J x G ws k n lv (.int (nI (SKn.getD i 0)) :: st) (pc + 1)) : J x G ws k n lv (.ref (G.2.2.2 i) :: st) pc := by
  intro H locs ls hP hD hS hL
  have hS' := hS
  rw [JC_h hC] at hS'
  exact va_tlen hC.1 hC.2.1 (JC_S hC i hi).2.2.2 hS' rfl hd (kk H locs ls hP hD hS hL)
theorem J_sbl (hC : JC x G R cc w0 own nL) {i : Nat} (hi : i < 14) {k' : Nat} (hk : k' < SKn.getD i 0) (hd : decode cc pc = .ok (.baload, 1)) (kk : J x G ws k n lv (.int ((SKb.getD i []).getD k' 0) :: st) (pc + 1)) : J x G ws k n lv (.int (nI k') :: .ref (G.2.2.2 i) :: st) pc := by
  intro H locs ls hP hD hS hL
  have hS' := hS
  rw [JC_h hC] at hS'
  have hb := SKn_le i hi
  exact va_tb hC.1 hC.2.1 (JC_S hC i hi).2.2.2 hS' (vp_in_nI hk (by omega)) (by rw [nI_clamp (by omega)]) hd (kk H locs ls hP hD hS hL)
theorem J_callVis {S : Type} {rest : List Value} {idx maxLY na i : Nat} {y : MethodName} {ccY : ByteArray} {ret : Option FieldType} {rmY : Room} {As : List Value} {post : Int32 → S → Prop} {W1 : S → va_W} (hC : JC x G R cc w0 own nL) (hd : decode cc pc = .ok (.invokevirtual idx, 3)) (hl : Cond.methodLink own idx y ∈ GW) (hY : YV y "java/lang/String" ccY maxLY ret na)
    (hM : MI (jl x) y ccY maxLY ret rmY (.ref (G.2.2.1 i) :: As) G ws post W1)
    (hst : st = As.reverse ++ .ref (G.2.2.1 i) :: rest) (hna : As.length = na) (hi : i < 14)
    (hR : rmY.frames + 1 ≤ R.frames ∧ 8 + (maxLY + 11) + rmY.locals ≤ R.locals) (hcat : (rest.map fun v => v.category).sum ≤ 8) (hk : k + rmY.cells ≤ R.cells) (hn : n + rmY.slots ≤ R.slots)
    (kk : ∀ (r : Int32) (u : S), post r u → J x G (W1 u) (k + rmY.cells) (n + rmY.slots) lv (.int r :: rest) (pc + 3)) : J x G ws k n lv st pc := by
  intro H locs ls hP hD hS hL
  have hK := hC.2.2.2.2.2.1
  have hRR : jR x = R := hC.2.2.2.2.2.2.2.1
  have hE := hC.2.2.2.2.2.2.2.2.2
  have hF := va_A_in hD hS hC.2.2.2.2.2.2.1
  have hS' := hS
  rw [JC_h hC] at hS'
  refine va_calli (va_runV (As := As) (rest := rest) ⟨hC.1, hC.2.1, hC.2.2.1, hC.2.2.2.1, hC.2.2.2.2.1⟩ (hM H.size) (cwV na hC.2.2.2.2.1 (gwV hl hY.1 hY.2.1 hY.2.2.1 hY.2.2.2.1) rfl rfl rfl hY.2.2.2.2 (by rw [hRR]; exact hR)) ⟨gP_blind _ _ _ _, (by obtain ⟨cell, h1, h2, h3, -⟩ := (JC_S hC i hi).1.kept hS'.2.1; exact ⟨cell, h1, h2, h3⟩), fun U hU hW => ⟨rfl, by rw [hU], by rw [hU]; exact hP, va_K.moved hW.alike hK, hD.weaken (fun _ _ _ _ => trivial), hE.step hW (by rw [hU]; intro q hq hn; rw [hC.2.2.2.2.2.2.2.2.1] at hS; exact hS.2.1 q hq hn) hF⟩⟩ rfl hna (hL.1.trans hC.2.2.1) hst (lv_room hcat) hd (by rw [hRR]; exact ⟨hk, hn⟩)) hS (fun q _ h => hF q h) hF (fun r u t H1 locs1 ht hvm hw hB hz hk1 hS1 => ?_)
  obtain ⟨hP1, hK1, hD1⟩ := hB
  rw [ht] at hP1
  exact kk r u hw H1 locs1 ls hP1 (hD1.weaken (fun _ _ _ h => hF _ h)) hS1 hL
end JSTR
theorem and255 (b : Int32) : ∃ j, j < 256 ∧ b &&& 255 = nI j := by
  obtain ⟨j, hj, e⟩ := pk_andE b (m := 255) 8 (by decide)
  exact ⟨j, by omega, e⟩
theorem c255 : ∀ j, j < 256 → ((nI j).toUInt32 % 65536).toInt32 = nI j := by decide +kernel
theorem n255 : ∀ j, j < 256 → ((nI j).toUInt32.toUInt16.toUInt32.toInt32) = nI j := by decide +kernel
theorem sk_c (b : Int32) : ((b &&& 255).toUInt32 % 65536).toInt32 = b &&& 255 := by
  obtain ⟨j, hj, e⟩ := and255 b
  rw [e]; exact c255 j hj
theorem sk_nar (b : Int32) : narrow .char (.int (b &&& 255)) = .int (b &&& 255) := by
  show Value.int (((b &&& 255).toUInt32 % 65536).toInt32) = _
  rw [sk_c]
theorem yi_J0_length_8abf5 : YV yJ0_length_8abf5 "java/lang/String" cJ0_length_8abf5 1 (some FieldType.int) 0 := ⟨wn_J0_length_8abf5, we_J0_length_8abf5, wi_J0, wc_J0_length_8abf5, by decide +kernel⟩
theorem yi_J0_coder_7d493 : YV yJ0_coder_7d493 "java/lang/String" cJ0_coder_7d493 1 (some FieldType.byte) 0 := ⟨wn_J0_coder_7d493, we_J0_coder_7d493, wi_J0, wc_J0_coder_7d493, by decide +kernel⟩
theorem yi_J0_isLatin1_aae02 : YV yJ0_isLatin1_aae02 "java/lang/String" cJ0_isLatin1_aae02 1 (some FieldType.boolean) 0 := ⟨wn_J0_isLatin1_aae02, we_J0_isLatin1_aae02, wi_J0, wc_J0_isLatin1_aae02, by decide +kernel⟩
theorem yi_J0_charAt_5068e : YV yJ0_charAt_5068e "java/lang/String" cJ0_charAt_5068e 2 (some FieldType.char) 1 := ⟨wn_J0_charAt_5068e, we_J0_charAt_5068e, wi_J0, wc_J0_charAt_5068e, by decide +kernel⟩
theorem yi_J1_charAt_3b067 : YS yJ1_charAt_3b067 RJ1 cJ1_charAt_3b067 2 (some FieldType.char) 2 := ⟨wst_J1_charAt_3b067, wi_J1, wc_J1_charAt_3b067, by decide +kernel⟩
theorem yi_J0_checkIndex_df160 : YS yJ0_checkIndex_df160 RJ0 cJ0_checkIndex_df160 2 none 2 := ⟨wst_J0_checkIndex_df160, wi_J0, wc_J0_checkIndex_df160, by decide +kernel⟩
theorem yi_J3_checkIndex_8e157 : YS yJ3_checkIndex_8e157 RJ3 cJ3_checkIndex_8e157 3 (some FieldType.int) 3 := ⟨wst_J3_checkIndex_8e157, wi_J3, wc_J3_checkIndex_8e157, by decide +kernel⟩

set_option maxRecDepth 100000 in
set_option maxHeartbeats 4000000 in
theorem c_J0_coder_7d493 (l : Launch) (G : gT) (ws0 : va_W) (i : Nat) (hi : i < 14) : MI l yJ0_coder_7d493 cJ0_coder_7d493 1 (some .byte) { frames := 0, cells := 0, slots := 0, locals := 0 } [.ref (G.2.2.1 i)] G (ws0) (fun r (_ : Unit) => r = 0) (fun _ => ws0) := by
  refine jm_i (own := RJ0) (by decide) rfl (Nat.le_of_ble_eq_true rfl) (fun x hl hC hR hN => ?_)
  subst hl
  refine J_gz hC dJ0_coder_7d493_0 wf_J0_38 ?_
  refine J_if_eq (tgt := 13) hC dJ0_coder_7d493_3 (by decide) (fun c => absurd c (by decide)) (fun _ => ?_)
  refine J_aload_n hC dJ0_coder_7d493_6 0 rfl rfl ?_
  refine J_sgc hC hi dJ0_coder_7d493_7 wf_J0_15 ?_
  refine J_goto (tgt := 14) hC dJ0_coder_7d493_10 (by decide) ?_
  refine J_iret hC hR dJ0_coder_7d493_14 rfl () ?_ ?_ (by decide) (by decide)
  · rfl
  · rfl

theorem ishr0 {n : Nat} (h : n < 2 ^ 31) : nI n >>> ((0 : Int32) &&& 31) = nI n := by
  show nI n >>> (0 : Int32) = nI n
  simp

set_option maxRecDepth 100000 in
set_option maxHeartbeats 4000000 in
theorem c_J0_length_8abf5 (l : Launch) (G : gT) (ws0 : va_W) (i : Nat) (hi : i < 14) : MI l yJ0_length_8abf5 cJ0_length_8abf5 1 (some .int) { frames := 1, cells := 0, slots := 0, locals := 20 } [.ref (G.2.2.1 i)] G (ws0) (fun r (_ : Unit) => r = nI (SKn.getD i 0)) (fun _ => ws0) := by
  refine jm_i (own := RJ0) (by decide) rfl (Nat.le_of_ble_eq_true rfl) (fun x hl hC hR hN => ?_)
  subst hl
  refine J_aload_n hC dJ0_length_8abf5_0 0 rfl rfl ?_
  refine J_sgv hC hi dJ0_length_8abf5_1 wf_J0_9 ?_
  refine J_slen hC hi dJ0_length_8abf5_4 ?_
  refine J_aload_n hC dJ0_length_8abf5_5 0 rfl rfl ?_
  refine J_callVis (i := i) hC dJ0_length_8abf5_6 wl_J0_335 yi_J0_coder_7d493 (c_J0_coder_7d493 _ G ws0 i hi) rfl rfl hi ⟨Nat.le_of_ble_eq_true rfl, Nat.le_of_ble_eq_true rfl⟩ (Nat.le_of_ble_eq_true rfl) (Nat.le_of_ble_eq_true rfl) (Nat.le_of_ble_eq_true rfl) (fun r u h_6 => ?_)
  subst h_6
  refine J_ishr (v := (nI (SKn.getD i 0)) >>> (0 &&& 31)) hC dJ0_length_8abf5_9 rfl ?_
  refine J_iret hC hR dJ0_length_8abf5_10 rfl () ?_ ?_ (by decide) (by decide)
  · exact ishr0 (by have := SKn_le i hi; omega)
  · rfl

set_option maxRecDepth 100000 in
set_option maxHeartbeats 4000000 in
theorem c_J0_isLatin1_aae02 (l : Launch) (G : gT) (ws0 : va_W) (i : Nat) (hi : i < 14) : MI l yJ0_isLatin1_aae02 cJ0_isLatin1_aae02 1 (some .boolean) { frames := 0, cells := 0, slots := 0, locals := 0 } [.ref (G.2.2.1 i)] G (ws0) (fun r (_ : Unit) => r = 1) (fun _ => ws0) := by
  refine jm_i (own := RJ0) (by decide) rfl (Nat.le_of_ble_eq_true rfl) (fun x hl hC hR hN => ?_)
  subst hl
  refine J_gz hC dJ0_isLatin1_aae02_0 wf_J0_38 ?_
  refine J_if_eq (tgt := 17) hC dJ0_isLatin1_aae02_3 (by decide) (fun c => absurd c (by decide)) (fun _ => ?_)
  refine J_aload_n hC dJ0_isLatin1_aae02_6 0 rfl rfl ?_
  refine J_sgc hC hi dJ0_isLatin1_aae02_7 wf_J0_15 ?_
  refine J_if_ne (tgt := 17) hC dJ0_isLatin1_aae02_10 (by decide) (fun c => absurd (by decide) c) (fun _ => ?_)
  refine J_iconst (v := 1) hC dJ0_isLatin1_aae02_13 rfl ?_
  refine J_goto (tgt := 18) hC dJ0_isLatin1_aae02_14 (by decide) ?_
  refine J_iret hC hR dJ0_isLatin1_aae02_18 rfl () ?_ ?_ (by decide) (by decide)
  · rfl
  · rfl

set_option maxRecDepth 100000 in
set_option maxHeartbeats 4000000 in
theorem c_J3_checkIndex_8e157 (l : Launch) (G : gT) (ws0 : va_W) (v : Value) (q z : Nat) (hv : v = .null ∨ ∃ t, v = .ref t) (hq : q < z) (hz : z ≤ 1000000) : MI l yJ3_checkIndex_8e157 cJ3_checkIndex_8e157 3 (some .int) { frames := 0, cells := 0, slots := 0, locals := 0 } [.int (nI q), .int (nI z), v] G ws0 (fun r (_ : Unit) => r = nI q) (fun _ => ws0) := by
  rcases hv with rfl | ⟨t, rfl⟩
  · refine jm_i (own := RJ3) (by decide) rfl (Nat.le_of_ble_eq_true rfl) (fun x hl hC hR hN => ?_)
    subst hl
    refine J_iload_n hC dJ3_checkIndex_8e157_0 0 rfl rfl ?_
    refine J_if_ltN (a := q) (tgt := 9) hC dJ3_checkIndex_8e157_1 (by decide) (by omega) ?_
    refine J_iload_n hC dJ3_checkIndex_8e157_4 0 rfl rfl ?_
    refine J_iload_n hC dJ3_checkIndex_8e157_5 1 rfl rfl ?_
    refine J_ic_ltN (a := q) (b := z) (tgt := 16) hC dJ3_checkIndex_8e157_6 (by decide) (by omega) (by omega) (fun _ => ?_) (fun c => absurd hq (Nat.not_lt.mpr c))
    refine J_iload_n hC dJ3_checkIndex_8e157_16 0 rfl rfl ?_
    exact J_iret hC hR dJ3_checkIndex_8e157_17 rfl () rfl rfl (by decide) (by decide)
  · refine jm_i (own := RJ3) (by decide) rfl (Nat.le_of_ble_eq_true rfl) (fun x hl hC hR hN => ?_)
    subst hl
    refine J_iload_n hC dJ3_checkIndex_8e157_0 0 rfl rfl ?_
    refine J_if_ltN (a := q) (tgt := 9) hC dJ3_checkIndex_8e157_1 (by decide) (by omega) ?_
    refine J_iload_n hC dJ3_checkIndex_8e157_4 0 rfl rfl ?_
    refine J_iload_n hC dJ3_checkIndex_8e157_5 1 rfl rfl ?_
    refine J_ic_ltN (a := q) (b := z) (tgt := 16) hC dJ3_checkIndex_8e157_6 (by decide) (by omega) (by omega) (fun _ => ?_) (fun c => absurd hq (Nat.not_lt.mpr c))
    refine J_iload_n hC dJ3_checkIndex_8e157_16 0 rfl rfl ?_
    exact J_iret hC hR dJ3_checkIndex_8e157_17 rfl () rfl rfl (by decide) (by decide)

set_option maxRecDepth 100000 in
set_option maxHeartbeats 4000000 in
theorem c_J0_checkIndex_df160 (l : Launch) (G : gT) (ws0 : va_W) (q : Nat) (z : Nat) (hq : q < z) (hz : z ≤ 1000000) : MV l yJ0_checkIndex_df160 cJ0_checkIndex_df160 2 { frames := 1, cells := 0, slots := 0, locals := 22 } [.int (nI q), .int (nI z)] G (ws0) (fun (_ : Unit) => True) (fun _ => ws0) := by
  refine jm_v (own := RJ0) (by decide) rfl (Nat.le_of_ble_eq_true rfl) (fun x hl hC hR hN => ?_)
  subst hl
  refine J_iload_n hC dJ0_checkIndex_df160_0 0 rfl rfl ?_
  refine J_iload_n hC dJ0_checkIndex_df160_1 1 rfl rfl ?_
  refine J_gq hC dJ0_checkIndex_df160_2 wf_J0_1053 (fun vq hvq => ?_)
  refine J_callSi hC dJ0_checkIndex_df160_5 wl_J0_1059 wi_J0 yi_J3_checkIndex_8e157 (c_J3_checkIndex_8e157 _ G ws0 vq q z hvq hq hz) rfl rfl ⟨Nat.le_of_ble_eq_true rfl, Nat.le_of_ble_eq_true rfl⟩ (Nat.le_of_ble_eq_true rfl) (Nat.le_of_ble_eq_true rfl) (Nat.le_of_ble_eq_true rfl) (fun r u h_5 => ?_)
  subst h_5
  refine J_pop hC dJ0_checkIndex_df160_8 rfl ?_
  refine J_vret hC hR dJ0_checkIndex_df160_9 () ?_ ?_ (by decide) (by decide)
  · trivial
  · rfl

set_option maxRecDepth 100000 in
set_option maxHeartbeats 4000000 in
theorem c_J1_charAt_3b067 (l : Launch) (G : gT) (ws0 : va_W) (i : Nat) (q : Nat) (hi : i < 14) (hq : q < SKn.getD i 0) : MI l yJ1_charAt_3b067 cJ1_charAt_3b067 2 (some .char) { frames := 2, cells := 0, slots := 0, locals := 43 } [.ref ((G.2.2.2 i)), .int (nI q)] G (ws0) (fun r (_ : Unit) => r = sk_ch i q) (fun _ => ws0) := by
  refine jm_i (own := RJ1) (by decide) rfl (Nat.le_of_ble_eq_true rfl) (fun x hl hC hR hN => ?_)
  subst hl
  have hle := SKn_le i hi
  refine J_iload_n hC dJ1_charAt_3b067_0 1 rfl rfl ?_
  refine J_aload_n hC dJ1_charAt_3b067_1 0 rfl rfl ?_
  refine J_slen hC hi dJ1_charAt_3b067_2 ?_
  refine J_callSv hC dJ1_charAt_3b067_3 wl_J1_9 wi_J1 yi_J0_checkIndex_df160 (c_J0_checkIndex_df160 _ G ws0 q (SKn.getD i 0) hq (by omega)) rfl rfl ⟨Nat.le_of_ble_eq_true rfl, Nat.le_of_ble_eq_true rfl⟩ (Nat.le_of_ble_eq_true rfl) (Nat.le_of_ble_eq_true rfl) (Nat.le_of_ble_eq_true rfl) (fun _ _ => ?_)
  refine J_aload_n hC dJ1_charAt_3b067_6 0 rfl rfl ?_
  refine J_iload_n hC dJ1_charAt_3b067_7 1 rfl rfl ?_
  refine J_sbl hC hi (k' := q) (by omega) dJ1_charAt_3b067_8 ?_
  refine J_sipush (v := 255) hC dJ1_charAt_3b067_9 (by decide +kernel) ?_
  refine J_iand (v := ((SKb.getD i []).getD q 0) &&& 255) hC dJ1_charAt_3b067_12 rfl ?_
  refine J_i2c (v := sk_ch i q) hC dJ1_charAt_3b067_13 (sk_c _) ?_
  refine J_iret hC hR dJ1_charAt_3b067_14 (sk_nar _) () ?_ ?_ (by decide) (by decide)
  · rfl
  · rfl

set_option maxRecDepth 100000 in
set_option maxHeartbeats 4000000 in
theorem c_J0_charAt_5068e (l : Launch) (G : gT) (ws0 : va_W) (i : Nat) (q : Nat) (hi : i < 14) (hq : q < SKn.getD i 0) : MI l yJ0_charAt_5068e cJ0_charAt_5068e 2 (some .char) { frames := 3, cells := 0, slots := 0, locals := 64 } [.ref (G.2.2.1 i), .int (nI q)] G (ws0) (fun r (_ : Unit) => r = sk_ch i q) (fun _ => ws0) := by
  refine jm_i (own := RJ0) (by decide) rfl (Nat.le_of_ble_eq_true rfl) (fun x hl hC hR hN => ?_)
  subst hl
  refine J_aload_n hC dJ0_charAt_5068e_0 0 rfl rfl ?_
  refine J_callVis (i := i) hC dJ0_charAt_5068e_1 wl_J0_492 yi_J0_isLatin1_aae02 (c_J0_isLatin1_aae02 _ G ws0 i hi) rfl rfl hi ⟨Nat.le_of_ble_eq_true rfl, Nat.le_of_ble_eq_true rfl⟩ (Nat.le_of_ble_eq_true rfl) (Nat.le_of_ble_eq_true rfl) (Nat.le_of_ble_eq_true rfl) (fun r u h_1 => ?_)
  subst h_1
  refine J_if_eq (tgt := 16) hC dJ0_charAt_5068e_4 (by decide) (fun c => absurd c (by decide)) (fun _ => ?_)
  refine J_aload_n hC dJ0_charAt_5068e_7 0 rfl rfl ?_
  refine J_sgv hC hi dJ0_charAt_5068e_8 wf_J0_9 ?_
  refine J_iload_n hC dJ0_charAt_5068e_11 1 rfl rfl ?_
  refine J_callSi hC dJ0_charAt_5068e_12 wl_J0_495 wi_J0 yi_J1_charAt_3b067 (c_J1_charAt_3b067 _ G ws0 i q hi hq) rfl rfl ⟨Nat.le_of_ble_eq_true rfl, Nat.le_of_ble_eq_true rfl⟩ (Nat.le_of_ble_eq_true rfl) (Nat.le_of_ble_eq_true rfl) (Nat.le_of_ble_eq_true rfl) (fun r u h_12 => ?_)
  subst h_12
  refine J_iret hC hR dJ0_charAt_5068e_15 (sk_nar _) () ?_ ?_ (by decide) (by decide)
  · rfl
  · rfl


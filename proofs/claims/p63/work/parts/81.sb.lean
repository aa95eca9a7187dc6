/-! STRINGBUILDER: texts of at most 128 letters, Latin-1 -/
/-- a StringBuilder at p: its row at v of m bytes a, n of them used -/
def sbW (G : gT) (p v m n : Nat) (a : Nat → Int32) : va_W := [(p, .inr (13, [.ref v, .int 0, .int 0, .int (nI n)])), (v, .inl (gc G 1, m, .inl a))]
/-- a String at t, made here -/
def sgW (G : gT) (t w m : Nat) (a : Nat → Int32) : va_W := [(t, .inr (12, [.ref w, .int 0, .int 0, .int 0])), (w, .inl (gc G 1, m, .inl a))]
def bcap (q m : Nat) : Nat := m + (if q - m < m + 2 then m + 2 else q - m)
theorem bcap_le {q m : Nat} (hm : m ≤ 300) (hq : q ≤ 128) (h : m < q) : q ≤ bcap q m ∧ bcap q m ≤ 300 ∧ m < bcap q m := by
  unfold bcap
  split <;> omega
/-- the digits of a number up to 1023 -/
def dgs (v : Nat) : Nat := if v < 10 then 1 else if v < 100 then 2 else if v < 1000 then 3 else 4
def dgc (v i : Nat) : Int32 := nI (48 + v / 10 ^ (dgs v - 1 - i) % 10)
theorem dgs_le (v : Nat) : 1 ≤ dgs v ∧ dgs v ≤ 4 := by
  unfold dgs
  repeat' split
  all_goals omega
theorem fit_nI {c : Nat} (h : c < 128) : fits .byte (.int (nI c)) = true := by
  have : ∀ c : Fin 128, fits .byte (.int (nI c.val)) = true := by decide +kernel
  exact this ⟨c, h⟩
theorem nar_nI {c : Nat} (h : c < 128) : vp_nar .byte (nI c) = nI c := by
  have : ∀ c : Fin 128, vp_nar .byte (nI c.val) = nI c.val := by decide +kernel
  exact this ⟨c, h⟩
theorem i8_nI {c : Nat} (h : c < 128) : (nI c).toInt8.toInt32 = nI c := by
  have : ∀ c : Fin 128, (nI c.val).toInt8.toInt32 = nI c.val := by decide +kernel
  exact this ⟨c, h⟩
theorem SKb_fit : ∀ i, i < 14 → (SKb.getD i []).all (fun c => fits .byte (.int c)) = true := by decide +kernel
theorem SKb_len : ∀ i, i < 14 → (SKb.getD i []).length = SKn.getD i 0 := by decide +kernel
theorem SKb_fitd {i j : Nat} (hi : i < 14) (hj : j < SKn.getD i 0) : fits .byte (.int ((SKb.getD i []).getD j 0)) = true := by
  have h := List.all_eq_true.mp (SKb_fit i hi)
  rw [← SKb_len i hi] at hj
  rw [List.getD_eq_getElem?_getD, List.getElem?_eq_getElem hj]
  exact h _ (List.getElem_mem hj)
theorem ng100 {w : Nat} (h : w < 2 ^ 31) : (-100 : Int32) < -nI w ↔ w < 100 := by
  rw [show (-100 : Int32) = -nI 100 by decide]
  exact sb_nlt (by decide) h
theorem ng9 {w : Nat} (h : w < 2 ^ 31) : (-9 : Int32) ≤ -nI w ↔ w ≤ 9 := by
  rw [show (-9 : Int32) = -nI 9 by decide]
  exact sb_nle (by decide) h
/-- calls on a String constant that answer nothing -/
theorem J_callVvs {S : Type} {x : JX} {G : gT} {R : Room} {cc : ByteArray} {w0 : Cond} {own : String} {nL : Nat} {ws : va_W} {k n : Nat} {lv : List (Nat × Value)} {st rest : List Value} {pc : Nat} {idx maxLY na i : Nat} {y : MethodName} {ccY : ByteArray} {rmY : Room} {As : List Value} {post : S → Prop} {W1 : S → va_W} (hC : JC x G R cc w0 own nL) (hd : decode cc pc = .ok (.invokevirtual idx, 3)) (hl : Cond.methodLink own idx y ∈ GW) (hY : YV y "java/lang/String" ccY maxLY none na)
    (hM : MV (jl x) y ccY maxLY rmY (.ref (G.2.2.1 i) :: As) G ws post W1)
    (hst : st = As.reverse ++ .ref (G.2.2.1 i) :: rest) (hna : As.length = na) (hi : i < 14)
    (hR : rmY.frames + 1 ≤ R.frames ∧ 8 + (maxLY + 11) + rmY.locals ≤ R.locals) (hcat : (rest.map fun v => v.category).sum ≤ 8) (hk : k + rmY.cells ≤ R.cells) (hn : n + rmY.slots ≤ R.slots)
    (kk : ∀ (u : S), post u → J x G (W1 u) (k + rmY.cells) (n + rmY.slots) lv rest (pc + 3)) : J x G ws k n lv st pc := by
  intro H locs ls hP hD hS hL
  have hK := hC.2.2.2.2.2.1
  have hRR : jR x = R := hC.2.2.2.2.2.2.2.1
  have hE := hC.2.2.2.2.2.2.2.2.2
  have hF := va_A_in hD hS hC.2.2.2.2.2.2.1
  have hS' := hS
  rw [JC_h hC] at hS'
  refine va_callv (va_runV (As := As) (rest := rest) ⟨hC.1, hC.2.1, hC.2.2.1, hC.2.2.2.1, hC.2.2.2.2.1⟩ (hM H.size) (cwV na hC.2.2.2.2.1 (gwV hl hY.1 hY.2.1 hY.2.2.1 hY.2.2.2.1) rfl rfl rfl hY.2.2.2.2 (by rw [hRR]; exact hR)) ⟨gP_blind _ _ _ _, (by obtain ⟨cell, h1, h2, h3, -⟩ := (JC_S hC i hi).1.kept hS'.2.1; exact ⟨cell, h1, h2, h3⟩), fun U hU hW => ⟨rfl, by rw [hU], by rw [hU]; exact hP, va_K.moved hW.alike hK, hD.weaken (fun _ _ _ _ => trivial), hE.step hW (by rw [hU]; intro q hq hn; rw [hC.2.2.2.2.2.2.2.2.1] at hS; exact hS.2.1 q hq hn) hF⟩⟩ rfl hna (hL.1.trans hC.2.2.1) hst (lv_room hcat) hd (by rw [hRR]; exact ⟨hk, hn⟩)) hS (fun q _ h => hF q h) hF (fun u t H1 locs1 ht hvm hw hB hz hk1 hS1 => ?_)
  obtain ⟨hP1, hK1, hD1⟩ := hB
  rw [ht] at hP1
  exact kk u hw H1 locs1 ls hP1 (hD1.weaken (fun _ _ _ h => hF _ h)) hS1 hL
set_option maxRecDepth 100000 in
theorem c_sb_isL (l : Launch) (G : gT) (p v m n : Nat) (a : Nat → Int32) : MI l yJ5_isLatin1_aae02 cJ5_isLatin1_aae02 1 (some FieldType.boolean) { frames := 0, cells := 0, slots := 0, locals := 0 } [.ref p] G (sbW G p v m n a) (fun r (_ : Unit) => r = 1) (fun _ => sbW G p v m n a) := by
  refine jm_i (own := RJ5) (by decide) rfl (Nat.le_of_ble_eq_true rfl) (fun x hl hC hR hN => ?_)
  subst hl
  refine J_gz hC dJ5_isLatin1_aae02_0 wf_J5_18 ?_
  refine J_if_eq (tgt := 17) hC dJ5_isLatin1_aae02_3 (by decide) (fun c => absurd c (by decide)) (fun _ => ?_)
  refine J_aload_n hC dJ5_isLatin1_aae02_6 0 rfl rfl ?_
  refine J_get (v := .int 0) hC wu_J4 rfl dJ5_isLatin1_aae02_7 0 1 (by decide) wf_J5_22 rfl rfl ?_
  refine J_if_ne (tgt := 17) hC dJ5_isLatin1_aae02_10 (by decide) (fun c => absurd rfl c) (fun _ => ?_)
  refine J_iconst (v := 1) hC dJ5_isLatin1_aae02_13 rfl ?_
  refine J_goto (tgt := 18) hC dJ5_isLatin1_aae02_14 (by decide) ?_
  exact J_iret hC hR dJ5_isLatin1_aae02_18 rfl () rfl rfl (by decide) (by decide)

set_option maxRecDepth 100000 in
theorem c_sb_getV (l : Launch) (G : gT) (p v m n : Nat) (a : Nat → Int32) : MA l yJ5_getValue_6d5f1 cJ5_getValue_6d5f1 1 (some (FieldType.array FieldType.byte)) { frames := 0, cells := 0, slots := 0, locals := 0 } [.ref p] G (sbW G p v m n a) (fun (_ : Unit) => True) (fun _ => v) (fun _ => sbW G p v m n a) := by
  refine jm_a (own := RJ5) (by decide) rfl (Or.inr ⟨_, rfl⟩) (Nat.le_of_ble_eq_true rfl) (fun x hl hC hR => ?_)
  subst hl
  refine J_aload_n hC dJ5_getValue_6d5f1_0 0 rfl rfl ?_
  refine J_get (v := .ref v) hC wu_J4 rfl dJ5_getValue_6d5f1_1 0 0 (by decide) wf_J5_15 rfl rfl ?_
  exact J_aret hC hR dJ5_getValue_6d5f1_4 () trivial rfl rfl (by decide) (by decide)

set_option maxRecDepth 100000 in
theorem c_sb_len5 (l : Launch) (G : gT) (p v m n : Nat) (a : Nat → Int32) : MI l yJ5_length_8abf5 cJ5_length_8abf5 1 (some FieldType.int) { frames := 0, cells := 0, slots := 0, locals := 0 } [.ref p] G (sbW G p v m n a) (fun r (_ : Unit) => r = nI n) (fun _ => sbW G p v m n a) := by
  refine jm_i (own := RJ5) (by decide) rfl (Nat.le_of_ble_eq_true rfl) (fun x hl hC hR hN => ?_)
  subst hl
  refine J_aload_n hC dJ5_length_8abf5_0 0 rfl rfl ?_
  refine J_get (v := .int (nI n)) hC wu_J4 rfl dJ5_length_8abf5_1 0 3 (by decide) wf_J5_79 rfl rfl ?_
  exact J_iret hC hR dJ5_length_8abf5_4 rfl () rfl rfl (by decide) (by decide)

set_option maxRecDepth 100000 in
theorem c_sb_len (l : Launch) (G : gT) (p v m n : Nat) (a : Nat → Int32) : MI l yJ4_length_8abf5 cJ4_length_8abf5 1 (some FieldType.int) { frames := 1, cells := 0, slots := 0, locals := 20 } [.ref p] G (sbW G p v m n a) (fun r (_ : Unit) => r = nI n) (fun _ => sbW G p v m n a) := by
  refine jm_i (own := RJ4) (by decide) rfl (Nat.le_of_ble_eq_true rfl) (fun x hl hC hR hN => ?_)
  subst hl
  refine J_aload_n hC dJ4_length_8abf5_0 0 rfl rfl ?_
  refine J_callZi hC dJ4_length_8abf5_1 yz_J4_343 (c_sb_len5 _ G p v m n a) rfl rfl 0 13 rfl rfl ⟨Nat.le_of_ble_eq_true rfl, Nat.le_of_ble_eq_true rfl⟩ (Nat.le_of_ble_eq_true rfl) (Nat.le_of_ble_eq_true rfl) (Nat.le_of_ble_eq_true rfl) (fun r u h => ?_)
  subst h
  exact J_iret hC hR dJ4_length_8abf5_4 rfl () rfl rfl (by decide) (by decide)

set_option maxRecDepth 100000 in
theorem c_sb_newL (l : Launch) (G : gT) (ws0 : va_W) (q m : Nat) (hm : m ≤ 300) (hq : q ≤ 128) (h : m < q) : MI l yJ8_newLength_cabcc cJ8_newLength_cabcc 4 (some FieldType.int) { frames := 1, cells := 0, slots := 0, locals := 20 } [.int (nI m), .int (nI (q - m)), .int (nI (m + 2))] G ws0 (fun r (_ : Unit) => r = nI (bcap q m)) (fun _ => ws0) := by
  refine jm_i (own := RJ8) (by decide) rfl (Nat.le_of_ble_eq_true rfl) (fun x hl hC hR hN => ?_)
  subst hl
  have hb := bcap_le hm hq h
  refine J_iload_n hC dJ8_newLength_cabcc_0 0 rfl rfl ?_
  refine J_iload_n hC dJ8_newLength_cabcc_1 1 rfl rfl ?_
  refine J_iload_n hC dJ8_newLength_cabcc_2 2 rfl rfl ?_
  refine J_mmax (v := nI (if q - m < m + 2 then m + 2 else q - m)) hC dJ8_newLength_cabcc_3 wl_J8_194 (by decide) (Nat.le_of_ble_eq_true rfl) (by decide) (by decide) (by split <;> rename_i h9 <;> rw [nI_ltI (by omega) (by omega)] at h9 <;> first | rw [if_pos h9] | rw [if_neg h9]) ?_
  refine J_iadd (v := nI (bcap q m)) hC dJ8_newLength_cabcc_6 (nI_add _ _) ?_
  refine J_istore_n hC [(3, .int (nI (bcap q m))), (0, .int (nI m)), (1, .int (nI (q - m))), (2, .int (nI (m + 2)))] dJ8_newLength_cabcc_7 rfl (by decide) rfl ?_
  refine J_iconst (v := 0) hC dJ8_newLength_cabcc_8 rfl ?_
  refine J_iload_n hC dJ8_newLength_cabcc_9 0 rfl rfl ?_
  refine J_ic_ge (tgt := 21) hC dJ8_newLength_cabcc_10 (by decide) (fun c => absurd c (fun h => by have := (nI_leI (a := bcap q m) (b := 0) (by omega) (by decide)).mp h; omega)) (fun _ => ?_)
  refine J_iload_n hC dJ8_newLength_cabcc_13 0 rfl rfl ?_
  refine J_ldc (v := 2147483639) hC dJ8_newLength_cabcc_14 wx_J8_200 ?_
  refine J_ic_gt (tgt := 21) hC dJ8_newLength_cabcc_16 (by decide) (fun c => absurd c (nI_nlt (a := 2147483639) (b := bcap q m) (by omega) (by decide))) (fun _ => ?_)
  refine J_iload_n hC dJ8_newLength_cabcc_19 0 rfl rfl ?_
  exact J_iret hC hR dJ8_newLength_cabcc_20 rfl () rfl rfl (by decide) (by decide)

set_option maxRecDepth 100000 in
theorem c_sb_newC (l : Launch) (G : gT) (p v m n : Nat) (a : Nat → Int32) (q : Nat) (hm : m ≤ 300) (hq : q ≤ 128) (h : m < q) : MI l yJ5_newCapacity_0f7a4 cJ5_newCapacity_0f7a4 6 (some FieldType.int) { frames := 2, cells := 0, slots := 0, locals := 45 } [.ref p, .int (nI q)] G (sbW G p v m n a) (fun r (_ : Unit) => r = nI (bcap q m)) (fun _ => sbW G p v m n a) := by
  refine jm_i (own := RJ5) (by decide) rfl (Nat.le_of_ble_eq_true rfl) (fun x hl hC hR hN => ?_)
  subst hl
  have hb := bcap_le hm hq h
  refine J_aload_n hC dJ5_newCapacity_0f7a4_0 0 rfl rfl ?_
  refine J_get (v := .ref v) hC wu_J4 rfl dJ5_newCapacity_0f7a4_1 0 0 (by decide) wf_J5_15 rfl rfl ?_
  refine J_alen hC dJ5_newCapacity_0f7a4_4 1 rfl (t := 1) rfl ?_
  dsimp only
  refine J_istore_n hC [(2, .int (nI m)), (0, .ref p), (1, .int (nI q))] dJ5_newCapacity_0f7a4_5 rfl (by decide) rfl ?_
  refine J_iload_n hC dJ5_newCapacity_0f7a4_6 2 rfl rfl ?_
  refine J_aload_n hC dJ5_newCapacity_0f7a4_7 1 rfl rfl ?_
  refine J_get (v := .int 0) hC wu_J4 rfl dJ5_newCapacity_0f7a4_8 0 1 (by decide) wf_J5_22 rfl rfl ?_
  refine J_ishl (v := nI q) hC dJ5_newCapacity_0f7a4_11 (sb_shl0 _) ?_
  refine J_istore_n hC [(3, .int (nI q)), (2, .int (nI m)), (0, .ref p), (1, .int (nI q))] dJ5_newCapacity_0f7a4_12 rfl (by decide) rfl ?_
  refine J_iload_n hC dJ5_newCapacity_0f7a4_13 0 rfl rfl ?_
  refine J_iload_n hC dJ5_newCapacity_0f7a4_14 1 rfl rfl ?_
  refine J_isub (v := nI (q - m)) hC dJ5_newCapacity_0f7a4_15 (pk_sub (by omega)) ?_
  refine J_istore hC [(4, .int (nI (q - m))), (3, .int (nI q)), (2, .int (nI m)), (0, .ref p), (1, .int (nI q))] dJ5_newCapacity_0f7a4_16 (by decide) rfl ?_
  refine J_iload_n hC dJ5_newCapacity_0f7a4_18 2 rfl rfl ?_
  refine J_iload hC dJ5_newCapacity_0f7a4_19 0 rfl ?_
  refine J_iload_n hC dJ5_newCapacity_0f7a4_21 2 rfl rfl ?_
  refine J_iconst (v := 2) hC dJ5_newCapacity_0f7a4_22 rfl ?_
  refine J_aload_n hC dJ5_newCapacity_0f7a4_23 3 rfl rfl ?_
  refine J_get (v := .int 0) hC wu_J4 rfl dJ5_newCapacity_0f7a4_24 0 1 (by decide) wf_J5_22 rfl rfl ?_
  refine J_ishl (v := 2) hC dJ5_newCapacity_0f7a4_27 (by decide) ?_
  refine J_iadd (v := nI (m + 2)) hC dJ5_newCapacity_0f7a4_28 (nI_add m 2) ?_
  refine J_callSi hC dJ5_newCapacity_0f7a4_29 wl_J5_114 wi_J5 yi_J8_newLength_cabcc (c_sb_newL _ G (sbW G p v m n a) q m hm hq h) rfl rfl ⟨Nat.le_of_ble_eq_true rfl, Nat.le_of_ble_eq_true rfl⟩ (Nat.le_of_ble_eq_true rfl) (Nat.le_of_ble_eq_true rfl) (Nat.le_of_ble_eq_true rfl) (fun r u h9 => ?_)
  subst h9
  refine J_istore hC [(5, .int (nI (bcap q m))), (4, .int (nI (q - m))), (3, .int (nI q)), (2, .int (nI m)), (0, .ref p), (1, .int (nI q))] dJ5_newCapacity_0f7a4_32 (by decide) rfl ?_
  refine J_iload hC dJ5_newCapacity_0f7a4_34 0 rfl ?_
  refine J_ldc (v := 2147483647) hC dJ5_newCapacity_0f7a4_36 wx_J5_39 ?_
  refine J_ic_ne (tgt := 51) hC dJ5_newCapacity_0f7a4_38 (by decide) (fun _ => ?_) (fun c => absurd c (fun h9 => by have := (nI_eq (a := bcap q m) (b := 2147483647) (by omega) (by decide)).mp h9; omega))
  refine J_iload hC dJ5_newCapacity_0f7a4_51 0 rfl ?_
  refine J_aload_n hC dJ5_newCapacity_0f7a4_53 4 rfl rfl ?_
  refine J_get (v := .int 0) hC wu_J4 rfl dJ5_newCapacity_0f7a4_54 0 1 (by decide) wf_J5_22 rfl rfl ?_
  refine J_ishr (v := nI (bcap q m)) hC dJ5_newCapacity_0f7a4_57 (sb_shr0 _) ?_
  exact J_iret hC hR dJ5_newCapacity_0f7a4_58 rfl () rfl rfl (by decide) (by decide)

set_option maxRecDepth 100000 in
theorem c_copyOf (l : Launch) (G : gT) (v m q : Nat) (a : Nat → Int32) (hm : m ≤ 300) (hq : q ≤ 300) (h : m < q) (hf : sb_Fit a) : MA l yJ7_copyOf_9075b cJ7_copyOf_9075b 3 (some (FieldType.array FieldType.byte)) { frames := 1, cells := 1, slots := 300, locals := 40 } [.ref v, .int (nI q)] G ([(v, .inl (gc G 1, m, .inl a))]) (fun (_ : Nat) => True) (fun t => t) (fun t => [(v, .inl (gc G 1, m, .inl a)), (t, .inl (gc G 1, q, .inl (va_cpy a (fun _ => 0) 0 0 m)))]) := by
  refine jm_a (own := RJ7) (by decide) rfl (Or.inr ⟨_, rfl⟩) (Nat.le_of_ble_eq_true rfl) (fun x hl hC hR => ?_)
  subst hl
  refine J_iload_n hC dJ7_copyOf_9075b_0 1 rfl rfl ?_
  refine J_aload_n hC dJ7_copyOf_9075b_1 0 rfl rfl ?_
  refine J_alen hC dJ7_copyOf_9075b_2 0 rfl (t := 1) rfl ?_
  dsimp only
  refine J_ic_ne (tgt := 14) hC dJ7_copyOf_9075b_3 (by decide) (fun _ => ?_) (fun c => absurd c (fun h9 => by have := (nI_eq (a := q) (b := m) (by omega) (by omega)).mp h9; omega))
  refine J_iload_n hC dJ7_copyOf_9075b_14 1 rfl rfl ?_
  refine J_newB hC dJ7_copyOf_9075b_15 (by omega) (Nat.le_of_ble_eq_true rfl) (by show 0 + q ≤ 300; omega) (fun t => ?_)
  refine J_astore_n hC [(2, .ref t), (0, .ref v), (1, .int (nI q))] dJ7_copyOf_9075b_17 rfl (by decide) rfl ?_
  refine J_aload_n hC dJ7_copyOf_9075b_18 1 rfl rfl ?_
  refine J_iconst (v := 0) hC dJ7_copyOf_9075b_19 rfl ?_
  refine J_aload_n hC dJ7_copyOf_9075b_20 0 rfl rfl ?_
  refine J_iconst (v := 0) hC dJ7_copyOf_9075b_21 rfl ?_
  refine J_aload_n hC dJ7_copyOf_9075b_22 1 rfl rfl ?_
  refine J_alen hC dJ7_copyOf_9075b_23 0 rfl (t := 1) rfl ?_
  refine J_iload_n hC dJ7_copyOf_9075b_24 2 rfl rfl ?_
  dsimp only
  refine J_mmin (v := nI m) hC dJ7_copyOf_9075b_25 wl_J7_304 (by decide) (Nat.le_of_ble_eq_true rfl) (by decide) (by show 0 + q ≤ 300; omega) (if_neg (nI_nlt (by omega) (by omega))) ?_
  refine J_copyB (sp := 0) (dp := 0) hC dJ7_copyOf_9075b_28 wl_J7_150 0 1 rfl rfl (by omega) (by omega) (by omega) (by omega) (fun i _ => hf _) (by decide) (by decide) rfl ?_
  refine J_aload_n hC dJ7_copyOf_9075b_31 0 rfl rfl ?_
  exact J_aret hC hR dJ7_copyOf_9075b_32 t trivial rfl rfl (by decide) (by show 0 + q ≤ 300; omega)

set_option maxRecDepth 100000 in
theorem c_sb_ens (l : Launch) (G : gT) (p v m n : Nat) (a : Nat → Int32) (q : Nat) (hm : m ≤ 300) (hq : q ≤ 128) (hf : sb_Fit a) : MV l yJ5_ensureCapacityInternal_d00df cJ5_ensureCapacityInternal_d00df 3 { frames := 3, cells := 1, slots := 300, locals := 75 } [.ref p, .int (nI q)] G (sbW G p v m n a) (fun (u : Nat × Nat × (Nat → Int32)) => q ≤ u.2.1 ∧ u.2.1 ≤ 300 ∧ (∀ j, j < m → u.2.2 j = a j) ∧ sb_Fit u.2.2) (fun u => sbW G p u.1 u.2.1 n u.2.2) := by
  refine jm_v (own := RJ5) (by decide) rfl (Nat.le_of_ble_eq_true rfl) (fun x hl hC hR hN => ?_)
  subst hl
  refine J_aload_n hC dJ5_ensureCapacityInternal_d00df_0 0 rfl rfl ?_
  refine J_get (v := .ref v) hC wu_J4 rfl dJ5_ensureCapacityInternal_d00df_1 0 0 (by decide) wf_J5_15 rfl rfl ?_
  refine J_alen hC dJ5_ensureCapacityInternal_d00df_4 1 rfl (t := 1) rfl ?_
  refine J_aload_n hC dJ5_ensureCapacityInternal_d00df_5 0 rfl rfl ?_
  refine J_get (v := .int 0) hC wu_J4 rfl dJ5_ensureCapacityInternal_d00df_6 0 1 (by decide) wf_J5_22 rfl rfl ?_
  refine J_ishr (v := nI m) hC dJ5_ensureCapacityInternal_d00df_9 (sb_shr0 _) ?_
  refine J_istore_n hC [(2, .int (nI m)), (0, .ref p), (1, .int (nI q))] dJ5_ensureCapacityInternal_d00df_10 rfl (by decide) rfl ?_
  refine J_iload_n hC dJ5_ensureCapacityInternal_d00df_11 2 rfl rfl ?_
  refine J_iload_n hC dJ5_ensureCapacityInternal_d00df_12 0 rfl rfl ?_
  by_cases h : q ≤ m
  · refine J_isub (v := nI q - nI m) hC dJ5_ensureCapacityInternal_d00df_13 rfl ?_
    refine J_if_le (tgt := 38) hC dJ5_ensureCapacityInternal_d00df_14 (by decide) (fun _ => ?_) (fun c => absurd (by rw [Int32.le_iff_toInt_le, pk_sub_toInt (by omega) (by omega), Int32.toInt_zero]; omega) c)
    exact J_vret hC hR dJ5_ensureCapacityInternal_d00df_38 (v, m, a) ⟨h, hm, fun _ _ => rfl, hf⟩ rfl (by decide) (by decide)
  · have hb := bcap_le hm hq (Nat.lt_of_not_le h)
    refine J_isub (v := nI (q - m)) hC dJ5_ensureCapacityInternal_d00df_13 (pk_sub (by omega)) ?_
    refine J_if_le (tgt := 38) hC dJ5_ensureCapacityInternal_d00df_14 (by decide) (fun c => absurd c (nI_nle (by omega) (by omega))) (fun _ => ?_)
    refine J_aload_n hC dJ5_ensureCapacityInternal_d00df_17 1 rfl rfl ?_
    refine J_aload_n hC dJ5_ensureCapacityInternal_d00df_18 1 rfl rfl ?_
    refine J_get (v := .ref v) hC wu_J4 rfl dJ5_ensureCapacityInternal_d00df_19 0 0 (by decide) wf_J5_15 rfl rfl ?_
    refine J_aload_n hC dJ5_ensureCapacityInternal_d00df_22 1 rfl rfl ?_
    refine J_iload_n hC dJ5_ensureCapacityInternal_d00df_23 2 rfl rfl ?_
    refine J_callUi hC dJ5_ensureCapacityInternal_d00df_24 yu_J5_104 (c_sb_newC _ G p v m n a q hm hq (Nat.lt_of_not_le h)) rfl rfl 0 13 rfl rfl ⟨Nat.le_of_ble_eq_true rfl, Nat.le_of_ble_eq_true rfl⟩ (Nat.le_of_ble_eq_true rfl) (Nat.le_of_ble_eq_true rfl) (Nat.le_of_ble_eq_true rfl) (fun r u h9 => ?_)
    subst h9
    refine J_aload_n hC dJ5_ensureCapacityInternal_d00df_27 1 rfl rfl ?_
    refine J_get (v := .int 0) hC wu_J4 rfl dJ5_ensureCapacityInternal_d00df_28 0 1 (by decide) wf_J5_22 rfl rfl ?_
    refine J_ishl (v := nI (bcap q m)) hC dJ5_ensureCapacityInternal_d00df_31 (sb_shl0 _) ?_
    refine J_callSa hC dJ5_ensureCapacityInternal_d00df_32 wl_J5_108 wi_J5 yi_J7_copyOf_9075b (appr_a [(p, .inr (13, [.ref v, .int 0, .int 0, .int (nI n)]))] (c_copyOf _ G v m (bcap q m) a hm hb.2.1 hb.2.2 hf)) rfl rfl ⟨Nat.le_of_ble_eq_true rfl, Nat.le_of_ble_eq_true rfl⟩ (Nat.le_of_ble_eq_true rfl) (Nat.le_of_ble_eq_true rfl) (Nat.le_of_ble_eq_true rfl) (fun t h9 => ?_)
    refine J_put (ws' := [(p, .inr (13, [.ref t, .int 0, .int 0, .int (nI n)])), (v, .inl (gc G 1, m, .inl a)), (t, .inl (gc G 1, bcap q m, .inl (va_cpy a (fun _ => 0) 0 0 m)))]) hC wu_J4 rfl tyJ4_ok nmJ4 dJ5_ensureCapacityInternal_d00df_35 0 0 (by decide) wf_J5_15 rfl rfl (Nat.le_of_ble_eq_true rfl) rfl rfl rfl ?_
    refine J_sub (ws' := sbW G p t (bcap q m) n (va_cpy a (fun _ => 0) 0 0 m)) [(v, .inl (gc G 1, m, .inl a))] (List.Perm.cons _ (List.Perm.swap _ _ _)) ?_
    exact J_vret hC hR dJ5_ensureCapacityInternal_d00df_38 (t, bcap q m, va_cpy a (fun _ => 0) 0 0 m) ⟨hb.1, hb.2.1, fun j hj => (show va_cpy a (fun _ => 0) 0 0 m j = a j from sb_cpy0 hj), sb_fitC hf sb_fit0⟩ rfl (by decide) (by decide)

set_option maxRecDepth 100000 in
theorem c_canE (l : Launch) (G : gT) (ws0 : va_W) (c : Nat) (hc : c < 128) : MI l yJ1_canEncode_fc78d cJ1_canEncode_fc78d 1 (some FieldType.boolean) { frames := 0, cells := 0, slots := 0, locals := 0 } [.int (nI c)] G ws0 (fun r (_ : Unit) => r = 1) (fun _ => ws0) := by
  refine jm_i (own := RJ1) (by decide) rfl (Nat.le_of_ble_eq_true rfl) (fun x hl hC hR hN => ?_)
  subst hl
  refine J_iload_n hC dJ1_canEncode_fc78d_0 0 rfl rfl ?_
  refine J_sipush (v := 255) hC dJ1_canEncode_fc78d_1 rfl ?_
  refine J_ic_gt (tgt := 11) hC dJ1_canEncode_fc78d_4 (by decide) (fun c9 => absurd c9 (nI_nlt (a := 255) (b := c) (by omega) (by decide))) (fun _ => ?_)
  refine J_iconst (v := 1) hC dJ1_canEncode_fc78d_7 rfl ?_
  refine J_goto (tgt := 12) hC dJ1_canEncode_fc78d_8 (by decide) ?_
  exact J_iret hC hR dJ1_canEncode_fc78d_12 rfl () rfl rfl (by decide) (by decide)

set_option maxRecDepth 100000 in
theorem c_sb_chr5 (l : Launch) (G : gT) (p v m n : Nat) (a : Nat → Int32) (c : Nat) (hc : c < 128) (hnm : n ≤ m) (hm : m ≤ 300) (hf : sb_Fit a) (hq : n + 1 ≤ 128) : MA l yJ5_append_3fe6f cJ5_append_3fe6f 2 (some (FieldType.object "java/lang/AbstractStringBuilder")) { frames := 4, cells := 1, slots := 300, locals := 105 } [.ref p, .int (nI c)] G (sbW G p v m n a) (fun (u : Nat × Nat × (Nat → Int32)) => n + 1 ≤ u.2.1 ∧ u.2.1 ≤ 300 ∧ (∀ j, j < n → u.2.2 j = a j) ∧ u.2.2 n = nI c ∧ sb_Fit u.2.2) (fun _ => p) (fun u => sbW G p u.1 u.2.1 (n + 1) u.2.2) := by
  refine jm_a (own := RJ5) (by decide) rfl (Or.inl ⟨_, rfl⟩) (Nat.le_of_ble_eq_true rfl) (fun x hl hC hR => ?_)
  subst hl
  refine J_aload_n hC dJ5_append_3fe6f_0 0 rfl rfl ?_
  refine J_aload_n hC dJ5_append_3fe6f_1 0 rfl rfl ?_
  refine J_get (v := .int (nI n)) hC wu_J4 rfl dJ5_append_3fe6f_2 0 3 (by decide) wf_J5_79 rfl rfl ?_
  refine J_iconst (v := 1) hC dJ5_append_3fe6f_5 rfl ?_
  refine J_iadd (v := nI (n + 1)) hC dJ5_append_3fe6f_6 (nI_1 n) ?_
  refine J_callUv hC dJ5_append_3fe6f_7 yu_J5_100 (c_sb_ens _ G p v m n a (n + 1) hm (by omega) hf) rfl rfl 0 13 rfl rfl ⟨Nat.le_of_ble_eq_true rfl, Nat.le_of_ble_eq_true rfl⟩ (Nat.le_of_ble_eq_true rfl) (Nat.le_of_ble_eq_true rfl) (Nat.le_of_ble_eq_true rfl) (fun u hu => ?_)
  obtain ⟨v2, m2, a2⟩ := u
  obtain ⟨g1, g2, g3, g4⟩ := hu
  dsimp only at g1 g2 g3 g4 ⊢
  refine J_aload_n hC dJ5_append_3fe6f_10 0 rfl rfl ?_
  refine J_callUi hC dJ5_append_3fe6f_11 yu_J5_83 (c_sb_isL _ G p v2 m2 n a2) rfl rfl 0 13 rfl rfl ⟨Nat.le_of_ble_eq_true rfl, Nat.le_of_ble_eq_true rfl⟩ (Nat.le_of_ble_eq_true rfl) (Nat.le_of_ble_eq_true rfl) (Nat.le_of_ble_eq_true rfl) (fun r u h9 => ?_)
  subst h9
  refine J_if_eq (tgt := 45) hC dJ5_append_3fe6f_14 (by decide) (fun c => absurd c (by decide)) (fun _ => ?_)
  refine J_iload_n hC dJ5_append_3fe6f_17 1 rfl rfl ?_
  refine J_callSi hC dJ5_append_3fe6f_18 wl_J5_191 wi_J5 yi_J1_canEncode_fc78d (c_canE _ G (sbW G p v2 m2 n a2) c hc) rfl rfl ⟨Nat.le_of_ble_eq_true rfl, Nat.le_of_ble_eq_true rfl⟩ (Nat.le_of_ble_eq_true rfl) (Nat.le_of_ble_eq_true rfl) (Nat.le_of_ble_eq_true rfl) (fun r u h9 => ?_)
  subst h9
  refine J_if_eq (tgt := 45) hC dJ5_append_3fe6f_21 (by decide) (fun c => absurd c (by decide)) (fun _ => ?_)
  refine J_aload_n hC dJ5_append_3fe6f_24 0 rfl rfl ?_
  refine J_get (v := .ref v2) hC wu_J4 rfl dJ5_append_3fe6f_25 0 0 (by decide) wf_J5_15 rfl rfl ?_
  refine J_aload_n hC dJ5_append_3fe6f_28 0 rfl rfl ?_
  refine J_dup hC dJ5_append_3fe6f_29 rfl ?_
  refine J_get (v := .int (nI n)) hC wu_J4 rfl dJ5_append_3fe6f_30 0 3 (by decide) wf_J5_79 rfl rfl ?_
  refine J_dup_x1 hC dJ5_append_3fe6f_33 rfl rfl ?_
  refine J_iconst (v := 1) hC dJ5_append_3fe6f_34 rfl ?_
  refine J_iadd (v := nI (n + 1)) hC dJ5_append_3fe6f_35 (nI_1 n) ?_
  refine J_put (ws' := sbW G p v2 m2 (n + 1) a2) hC wu_J4 rfl tyJ4_ok nmJ4 dJ5_append_3fe6f_36 0 3 (by decide) wf_J5_79 rfl rfl (Nat.le_of_ble_eq_true rfl) rfl rfl rfl ?_
  refine J_iload_n hC dJ5_append_3fe6f_39 1 rfl rfl ?_
  refine J_i2b (v := nI c) hC dJ5_append_3fe6f_40 (i8_nI hc) ?_
  refine J_bast (ws' := sbW G p v2 m2 (n + 1) (upd a2 n (nI c))) hC dJ5_append_3fe6f_41 1 rfl (by omega) (by omega) (by rw [nar_nI hc]; rfl) ?_
  refine J_goto (tgt := 75) hC dJ5_append_3fe6f_42 (by decide) ?_
  refine J_aload_n hC dJ5_append_3fe6f_75 0 rfl rfl ?_
  exact J_aret hC hR dJ5_append_3fe6f_76 (v2, m2, upd a2 n (nI c)) ⟨by omega, g2, fun j hj => (pk_un (by omega)).trans (g3 j (by omega)), pk_us, sb_fitU g4 (fit_nI hc)⟩ rfl rfl (by decide) (by decide)

set_option maxRecDepth 100000 in
theorem c_sb_chr (l : Launch) (G : gT) (p v m n : Nat) (a : Nat → Int32) (c : Nat) (hc : c < 128) (hnm : n ≤ m) (hm : m ≤ 300) (hf : sb_Fit a) (hq : n + 1 ≤ 128) : MA l yJ4_append_cf468 cJ4_append_cf468 2 (some (FieldType.object "java/lang/StringBuilder")) { frames := 5, cells := 1, slots := 300, locals := 130 } [.ref p, .int (nI c)] G (sbW G p v m n a) (fun (u : Nat × Nat × (Nat → Int32)) => n + 1 ≤ u.2.1 ∧ u.2.1 ≤ 300 ∧ (∀ j, j < n → u.2.2 j = a j) ∧ u.2.2 n = nI c ∧ sb_Fit u.2.2) (fun _ => p) (fun u => sbW G p u.1 u.2.1 (n + 1) u.2.2) := by
  refine jm_a (own := RJ4) (by decide) rfl (Or.inl ⟨_, rfl⟩) (Nat.le_of_ble_eq_true rfl) (fun x hl hC hR => ?_)
  subst hl
  refine J_aload_n hC dJ4_append_cf468_0 0 rfl rfl ?_
  refine J_iload_n hC dJ4_append_cf468_1 1 rfl rfl ?_
  refine J_callZa hC dJ4_append_cf468_2 yz_J4_50 (c_sb_chr5 _ G p v m n a c hc hnm hm hf hq) rfl rfl 0 13 rfl rfl ⟨Nat.le_of_ble_eq_true rfl, Nat.le_of_ble_eq_true rfl⟩ (Nat.le_of_ble_eq_true rfl) (Nat.le_of_ble_eq_true rfl) (Nat.le_of_ble_eq_true rfl) (fun u hu => ?_)
  refine J_pop hC dJ4_append_cf468_5 rfl ?_
  refine J_aload_n hC dJ4_append_cf468_6 0 rfl rfl ?_
  exact J_aret hC hR dJ4_append_cf468_7 u hu rfl rfl (by decide) (by decide)

set_option maxRecDepth 100000 in
theorem c_getB (l : Launch) (G : gT) (v m d i : Nat) (a : Nat → Int32) (hi : i < 14) (hm : m ≤ 300) (hd : d + SKn.getD i 0 ≤ m) : MV l yJ0_getBytes_840e7 cJ0_getBytes_840e7 4 { frames := 1, cells := 0, slots := 0, locals := 40 } [.ref (G.2.2.1 i), .ref v, .int (nI d), .int 0] G ([(v, .inl (gc G 1, m, .inl a))]) (fun (_ : Unit) => True) (fun _ => [(v, .inl (gc G 1, m, .inl (va_cpy (fun j => (SKb.getD i []).getD j 0) a 0 d (SKn.getD i 0))))]) := by
  refine jm_v (own := RJ0) (by decide) rfl (Nat.le_of_ble_eq_true rfl) (fun x hl hC hR hN => ?_)
  subst hl
  refine J_aload_n hC dJ0_getBytes_840e7_0 0 rfl rfl ?_
  refine J_callVis (i := i) hC dJ0_getBytes_840e7_1 wl_J0_335 yi_J0_coder_7d493 (c_J0_coder_7d493 _ G [(v, .inl (gc G 1, m, .inl a))] i hi) rfl rfl hi ⟨Nat.le_of_ble_eq_true rfl, Nat.le_of_ble_eq_true rfl⟩ (Nat.le_of_ble_eq_true rfl) (Nat.le_of_ble_eq_true rfl) (Nat.le_of_ble_eq_true rfl) (fun r u h9 => ?_)
  subst h9
  refine J_iload_n hC dJ0_getBytes_840e7_4 3 rfl rfl ?_
  refine J_ic_ne (tgt := 28) hC dJ0_getBytes_840e7_5 (by decide) (fun c => absurd rfl c) (fun _ => ?_)
  refine J_aload_n hC dJ0_getBytes_840e7_8 0 rfl rfl ?_
  refine J_sgv hC hi dJ0_getBytes_840e7_9 wf_J0_9 ?_
  refine J_iconst (v := 0) hC dJ0_getBytes_840e7_12 rfl ?_
  refine J_aload_n hC dJ0_getBytes_840e7_13 1 rfl rfl ?_
  refine J_iload_n hC dJ0_getBytes_840e7_14 2 rfl rfl ?_
  refine J_iload_n hC dJ0_getBytes_840e7_15 3 rfl rfl ?_
  refine J_ishl (v := nI d) hC dJ0_getBytes_840e7_16 (sb_shl0 _) ?_
  refine J_aload_n hC dJ0_getBytes_840e7_17 0 rfl rfl ?_
  refine J_sgv hC hi dJ0_getBytes_840e7_18 wf_J0_9 ?_
  refine J_slen hC hi dJ0_getBytes_840e7_21 ?_
  refine J_copyT hC (JC_S hC i hi).2.2.2 dJ0_getBytes_840e7_22 wl_J0_212 0 rfl hd (by omega) (by omega) (fun j hj => SKb_fitd hi hj) (by decide) (by decide) rfl ?_
  refine J_goto (tgt := 43) hC dJ0_getBytes_840e7_25 (by decide) ?_
  exact J_vret hC hR dJ0_getBytes_840e7_43 () trivial rfl (by decide) (by decide)

set_option maxRecDepth 100000 in
theorem c_sb_inf (l : Launch) (G : gT) (p v m n : Nat) (a : Nat → Int32) (i : Nat) (hi : i < 14) : MV l yJ5_inflateIfNeededFor_a7421 cJ5_inflateIfNeededFor_a7421 2 { frames := 1, cells := 0, slots := 0, locals := 22 } [.ref p, .ref (G.2.2.1 i)] G (sbW G p v m n a) (fun (_ : Unit) => True) (fun _ => sbW G p v m n a) := by
  refine jm_v (own := RJ5) (by decide) rfl (Nat.le_of_ble_eq_true rfl) (fun x hl hC hR hN => ?_)
  subst hl
  refine J_gz hC dJ5_inflateIfNeededFor_a7421_0 wf_J5_18 ?_
  refine J_if_eq (tgt := 21) hC dJ5_inflateIfNeededFor_a7421_3 (by decide) (fun c => absurd c (by decide)) (fun _ => ?_)
  refine J_aload_n hC dJ5_inflateIfNeededFor_a7421_6 0 rfl rfl ?_
  refine J_get (v := .int 0) hC wu_J4 rfl dJ5_inflateIfNeededFor_a7421_7 0 1 (by decide) wf_J5_22 rfl rfl ?_
  refine J_aload_n hC dJ5_inflateIfNeededFor_a7421_10 1 rfl rfl ?_
  refine J_callVis (i := i) hC dJ5_inflateIfNeededFor_a7421_11 wl_J5_40 yi_J0_coder_7d493 (c_J0_coder_7d493 _ G (sbW G p v m n a) i hi) rfl rfl hi ⟨Nat.le_of_ble_eq_true rfl, Nat.le_of_ble_eq_true rfl⟩ (Nat.le_of_ble_eq_true rfl) (Nat.le_of_ble_eq_true rfl) (Nat.le_of_ble_eq_true rfl) (fun r u h9 => ?_)
  subst h9
  refine J_ic_eq (tgt := 21) hC dJ5_inflateIfNeededFor_a7421_14 (by decide) (fun _ => ?_) (fun c => absurd rfl c)
  exact J_vret hC hR dJ5_inflateIfNeededFor_a7421_21 () trivial rfl (by decide) (by decide)

set_option maxRecDepth 100000 in
theorem c_sb_put (l : Launch) (G : gT) (p v m n : Nat) (a : Nat → Int32) (i : Nat) (hi : i < 14) (hm : m ≤ 300) (hd : n + SKn.getD i 0 ≤ m) : MV l yJ5_putStringAt_47b60 cJ5_putStringAt_47b60 3 { frames := 2, cells := 0, slots := 0, locals := 64 } [.ref p, .int (nI n), .ref (G.2.2.1 i)] G (sbW G p v m n a) (fun (_ : Unit) => True) (fun _ => sbW G p v m n (va_cpy (fun j => (SKb.getD i []).getD j 0) a 0 n (SKn.getD i 0))) := by
  refine jm_v (own := RJ5) (by decide) rfl (Nat.le_of_ble_eq_true rfl) (fun x hl hC hR hN => ?_)
  subst hl
  refine J_aload_n hC dJ5_putStringAt_47b60_0 0 rfl rfl ?_
  refine J_aload_n hC dJ5_putStringAt_47b60_1 2 rfl rfl ?_
  refine J_callUv hC dJ5_putStringAt_47b60_2 yu_J5_397 (c_sb_inf _ G p v m n a i hi) rfl rfl 0 13 rfl rfl ⟨Nat.le_of_ble_eq_true rfl, Nat.le_of_ble_eq_true rfl⟩ (Nat.le_of_ble_eq_true rfl) (Nat.le_of_ble_eq_true rfl) (Nat.le_of_ble_eq_true rfl) (fun u h9 => ?_)
  refine J_aload_n hC dJ5_putStringAt_47b60_5 2 rfl rfl ?_
  refine J_aload_n hC dJ5_putStringAt_47b60_6 0 rfl rfl ?_
  refine J_get (v := .ref v) hC wu_J4 rfl dJ5_putStringAt_47b60_7 0 0 (by decide) wf_J5_15 rfl rfl ?_
  refine J_iload_n hC dJ5_putStringAt_47b60_10 1 rfl rfl ?_
  refine J_aload_n hC dJ5_putStringAt_47b60_11 0 rfl rfl ?_
  refine J_get (v := .int 0) hC wu_J4 rfl dJ5_putStringAt_47b60_12 0 1 (by decide) wf_J5_22 rfl rfl ?_
  refine J_callVvs (i := i) hC dJ5_putStringAt_47b60_15 wl_J5_399 yi_J0_getBytes_840e7 (appr_v [(p, .inr (13, [.ref v, .int 0, .int 0, .int (nI n)]))] (c_getB _ G v m n i a hi hm hd)) rfl rfl hi ⟨Nat.le_of_ble_eq_true rfl, Nat.le_of_ble_eq_true rfl⟩ (Nat.le_of_ble_eq_true rfl) (Nat.le_of_ble_eq_true rfl) (Nat.le_of_ble_eq_true rfl) (fun u9 h8 => ?_)
  exact J_vret hC hR dJ5_putStringAt_47b60_18 () trivial rfl (by decide) (by decide)

set_option maxRecDepth 100000 in
theorem c_sb_str5 (l : Launch) (G : gT) (p v m n : Nat) (a : Nat → Int32) (i : Nat) (hi : i < 14) (hnm : n ≤ m) (hm : m ≤ 300) (hf : sb_Fit a) (hq : n + SKn.getD i 0 ≤ 128) : MA l yJ5_append_cf1ce cJ5_append_cf1ce 3 (some (FieldType.object "java/lang/AbstractStringBuilder")) { frames := 4, cells := 1, slots := 300, locals := 106 } [.ref p, .ref (G.2.2.1 i)] G (sbW G p v m n a) (fun (u : Nat × Nat × (Nat → Int32)) => n + SKn.getD i 0 ≤ u.2.1 ∧ u.2.1 ≤ 300 ∧ (∀ j, j < n → u.2.2 j = a j) ∧ (∀ j, j < SKn.getD i 0 → u.2.2 (n + j) = (SKb.getD i []).getD j 0) ∧ sb_Fit u.2.2) (fun _ => p) (fun u => sbW G p u.1 u.2.1 (n + SKn.getD i 0) u.2.2) := by
  refine jm_a (own := RJ5) (by decide) rfl (Or.inl ⟨_, rfl⟩) (Nat.le_of_ble_eq_true rfl) (fun x hl hC hR => ?_)
  subst hl
  have hsl := SKn_le i hi
  refine J_aload_n hC dJ5_append_cf1ce_0 1 rfl rfl ?_
  refine J_ifnn (tgt := 9) hC dJ5_append_cf1ce_1 (by decide) ?_
  refine J_aload_n hC dJ5_append_cf1ce_9 1 rfl rfl ?_
  refine J_callVis (i := i) hC dJ5_append_cf1ce_10 wl_J5_32 yi_J0_length_8abf5 (c_J0_length_8abf5 _ G (sbW G p v m n a) i hi) rfl rfl hi ⟨Nat.le_of_ble_eq_true rfl, Nat.le_of_ble_eq_true rfl⟩ (Nat.le_of_ble_eq_true rfl) (Nat.le_of_ble_eq_true rfl) (Nat.le_of_ble_eq_true rfl) (fun r u h9 => ?_)
  subst h9
  refine J_istore_n hC [(2, .int (nI (SKn.getD i 0))), (0, .ref p), (1, .ref (G.2.2.1 i))] dJ5_append_cf1ce_13 rfl (by decide) rfl ?_
  refine J_aload_n hC dJ5_append_cf1ce_14 1 rfl rfl ?_
  refine J_aload_n hC dJ5_append_cf1ce_15 1 rfl rfl ?_
  refine J_get (v := .int (nI n)) hC wu_J4 rfl dJ5_append_cf1ce_16 0 3 (by decide) wf_J5_79 rfl rfl ?_
  refine J_iload_n hC dJ5_append_cf1ce_19 0 rfl rfl ?_
  refine J_iadd (v := nI (n + SKn.getD i 0)) hC dJ5_append_cf1ce_20 (nI_add _ _) ?_
  refine J_callUv hC dJ5_append_cf1ce_21 yu_J5_100 (c_sb_ens _ G p v m n a (n + SKn.getD i 0) hm hq hf) rfl rfl 0 13 rfl rfl ⟨Nat.le_of_ble_eq_true rfl, Nat.le_of_ble_eq_true rfl⟩ (Nat.le_of_ble_eq_true rfl) (Nat.le_of_ble_eq_true rfl) (Nat.le_of_ble_eq_true rfl) (fun u hu => ?_)
  obtain ⟨v2, m2, a2⟩ := u
  obtain ⟨g1, g2, g3, g4⟩ := hu
  dsimp only at g1 g2 g3 g4 ⊢
  refine J_aload_n hC dJ5_append_cf1ce_24 1 rfl rfl ?_
  refine J_aload_n hC dJ5_append_cf1ce_25 1 rfl rfl ?_
  refine J_get (v := .int (nI n)) hC wu_J4 rfl dJ5_append_cf1ce_26 0 3 (by decide) wf_J5_79 rfl rfl ?_
  refine J_aload_n hC dJ5_append_cf1ce_29 2 rfl rfl ?_
  refine J_callUv hC dJ5_append_cf1ce_30 yu_J5_208 (c_sb_put _ G p v2 m2 n a2 i hi g2 g1) rfl rfl 0 13 rfl rfl ⟨Nat.le_of_ble_eq_true rfl, Nat.le_of_ble_eq_true rfl⟩ (Nat.le_of_ble_eq_true rfl) (Nat.le_of_ble_eq_true rfl) (Nat.le_of_ble_eq_true rfl) (fun u h9 => ?_)
  obtain ⟨a3, ha3⟩ : ∃ z, z = va_cpy (fun j => (SKb.getD i []).getD j 0) a2 0 n (SKn.getD i 0) := ⟨_, rfl⟩
  rw [← ha3]
  refine J_aload_n hC dJ5_append_cf1ce_33 1 rfl rfl ?_
  refine J_dup hC dJ5_append_cf1ce_34 rfl ?_
  refine J_get (v := .int (nI n)) hC wu_J4 rfl dJ5_append_cf1ce_35 0 3 (by decide) wf_J5_79 rfl rfl ?_
  refine J_iload_n hC dJ5_append_cf1ce_38 0 rfl rfl ?_
  refine J_iadd (v := nI (n + SKn.getD i 0)) hC dJ5_append_cf1ce_39 (nI_add _ _) ?_
  refine J_put (ws' := sbW G p v2 m2 (n + SKn.getD i 0) a3) hC wu_J4 rfl tyJ4_ok nmJ4 dJ5_append_cf1ce_40 0 3 (by decide) wf_J5_79 rfl rfl (Nat.le_of_ble_eq_true rfl) rfl rfl rfl ?_
  refine J_aload_n hC dJ5_append_cf1ce_43 1 rfl rfl ?_
  refine J_aret hC hR dJ5_append_cf1ce_44 (v2, m2, a3) ⟨g1, g2, fun j hj => ?_, fun j hj => ?_, ?_⟩ rfl rfl (by decide) (by decide)
  · show a3 j = a j
    rw [ha3, pk_cpy_out (by omega)]
    exact g3 j (by omega)
  · show a3 (n + j) = _
    rw [ha3, pk_cpy_in (by omega) (by omega), show 0 + (n + j - n) = j by omega]
  · show sb_Fit a3
    rw [ha3]
    intro k
    by_cases hk : n ≤ k ∧ k < n + SKn.getD i 0
    · rw [pk_cpy_in hk.1 hk.2]; exact SKb_fitd hi (by omega)
    · rw [pk_cpy_out (by omega)]; exact g4 k

set_option maxRecDepth 100000 in
theorem c_sb_str (l : Launch) (G : gT) (p v m n : Nat) (a : Nat → Int32) (i : Nat) (hi : i < 14) (hnm : n ≤ m) (hm : m ≤ 300) (hf : sb_Fit a) (hq : n + SKn.getD i 0 ≤ 128) : MA l yJ4_append_15ec4 cJ4_append_15ec4 2 (some (FieldType.object "java/lang/StringBuilder")) { frames := 5, cells := 1, slots := 300, locals := 132 } [.ref p, .ref (G.2.2.1 i)] G (sbW G p v m n a) (fun (u : Nat × Nat × (Nat → Int32)) => n + SKn.getD i 0 ≤ u.2.1 ∧ u.2.1 ≤ 300 ∧ (∀ j, j < n → u.2.2 j = a j) ∧ (∀ j, j < SKn.getD i 0 → u.2.2 (n + j) = (SKb.getD i []).getD j 0) ∧ sb_Fit u.2.2) (fun _ => p) (fun u => sbW G p u.1 u.2.1 (n + SKn.getD i 0) u.2.2) := by
  refine jm_a (own := RJ4) (by decide) rfl (Or.inl ⟨_, rfl⟩) (Nat.le_of_ble_eq_true rfl) (fun x hl hC hR => ?_)
  subst hl
  refine J_aload_n hC dJ4_append_15ec4_0 0 rfl rfl ?_
  refine J_aload_n hC dJ4_append_15ec4_1 1 rfl rfl ?_
  refine J_callZa hC dJ4_append_15ec4_2 yz_J4_29 (c_sb_str5 _ G p v m n a i hi hnm hm hf hq) rfl rfl 0 13 rfl rfl ⟨Nat.le_of_ble_eq_true rfl, Nat.le_of_ble_eq_true rfl⟩ (Nat.le_of_ble_eq_true rfl) (Nat.le_of_ble_eq_true rfl) (Nat.le_of_ble_eq_true rfl) (fun u hu => ?_)
  refine J_pop hC dJ4_append_15ec4_5 rfl ?_
  refine J_aload_n hC dJ4_append_15ec4_6 0 rfl rfl ?_
  exact J_aret hC hR dJ4_append_15ec4_7 u hu rfl rfl (by decide) (by decide)

set_option maxRecDepth 100000 in
theorem c_sb_strB (l : Launch) (G : gT) (p v m n : Nat) (a : Nat → Int32) (i : Nat) (hi : i < 14) (hnm : n ≤ m) (hm : m ≤ 300) (hf : sb_Fit a) (hq : n + SKn.getD i 0 ≤ 128) : MA l yJ4_append_cf1ce cJ4_append_cf1ce 2 (some (FieldType.object "java/lang/AbstractStringBuilder")) { frames := 6, cells := 1, slots := 300, locals := 156 } [.ref p, .ref (G.2.2.1 i)] G (sbW G p v m n a) (fun (u : Nat × Nat × (Nat → Int32)) => n + SKn.getD i 0 ≤ u.2.1 ∧ u.2.1 ≤ 300 ∧ (∀ j, j < n → u.2.2 j = a j) ∧ (∀ j, j < SKn.getD i 0 → u.2.2 (n + j) = (SKb.getD i []).getD j 0) ∧ sb_Fit u.2.2) (fun _ => p) (fun u => sbW G p u.1 u.2.1 (n + SKn.getD i 0) u.2.2) := by
  refine jm_a (own := RJ4) (by decide) rfl (Or.inl ⟨_, rfl⟩) (Nat.le_of_ble_eq_true rfl) (fun x hl hC hR => ?_)
  subst hl
  refine J_aload_n hC dJ4_append_cf1ce_0 0 rfl rfl ?_
  refine J_aload_n hC dJ4_append_cf1ce_1 1 rfl rfl ?_
  refine J_callVa hC dJ4_append_cf1ce_2 wl_J4_23 yi_J4_append_15ec4 (c_sb_str _ G p v m n a i hi hnm hm hf hq) rfl rfl 0 13 rfl rfl ⟨Nat.le_of_ble_eq_true rfl, Nat.le_of_ble_eq_true rfl⟩ (Nat.le_of_ble_eq_true rfl) (Nat.le_of_ble_eq_true rfl) (Nat.le_of_ble_eq_true rfl) (fun u hu => ?_)
  exact J_aret hC hR dJ4_append_cf1ce_5 u hu rfl rfl (by decide) (by decide)

set_option maxRecDepth 100000 in
theorem c_sb_ini5 (l : Launch) (G : gT) (p i : Nat) (hi : i < 14) (hq : SKn.getD i 0 ≤ 100) : MV l yJ5_init_a7421 cJ5_init_a7421 5 { frames := 7, cells := 2, slots := 600, locals := 180 } [.ref p, .ref (G.2.2.1 i)] G ([(p, .inr (13, [.null, .int 0, .int 0, .int 0]))]) (fun (u : Nat × Nat × (Nat → Int32)) => SKn.getD i 0 ≤ u.2.1 ∧ u.2.1 ≤ 300 ∧ (∀ j, j < SKn.getD i 0 → u.2.2 j = (SKb.getD i []).getD j 0) ∧ sb_Fit u.2.2) (fun u => sbW G p u.1 u.2.1 (SKn.getD i 0) u.2.2) := by
  refine jm_v (own := RJ5) (by decide) rfl (Nat.le_of_ble_eq_true rfl) (fun x hl hC hR hN => ?_)
  subst hl
  refine J_aload_n hC dJ5_init_a7421_0 0 rfl rfl ?_
  refine J_oinit hC dJ5_init_a7421_1 wl_J5_3 (by decide) (by decide) ?_
  refine J_aload_n hC dJ5_init_a7421_4 1 rfl rfl ?_
  refine J_callVis (i := i) hC dJ5_init_a7421_5 wl_J5_32 yi_J0_length_8abf5 (c_J0_length_8abf5 _ G [(p, .inr (13, [.null, .int 0, .int 0, .int 0]))] i hi) rfl rfl hi ⟨Nat.le_of_ble_eq_true rfl, Nat.le_of_ble_eq_true rfl⟩ (Nat.le_of_ble_eq_true rfl) (Nat.le_of_ble_eq_true rfl) (Nat.le_of_ble_eq_true rfl) (fun r u h9 => ?_)
  subst h9
  refine J_istore_n hC [(2, .int (nI (SKn.getD i 0))), (0, .ref p), (1, .ref (G.2.2.1 i))] dJ5_init_a7421_8 rfl (by decide) rfl ?_
  refine J_iload_n hC dJ5_init_a7421_9 0 rfl rfl ?_
  refine J_ldc (v := 2147483631) hC dJ5_init_a7421_10 wx_J5_38 ?_
  refine J_ic_ge (tgt := 22) hC dJ5_init_a7421_12 (by decide) (fun c => absurd c (nI_ge (a := SKn.getD i 0) (b := 2147483631) (by omega) (by decide))) (fun _ => ?_)
  refine J_iload_n hC dJ5_init_a7421_15 0 rfl rfl ?_
  refine J_bipush (v := 16) hC dJ5_init_a7421_16 rfl ?_
  refine J_iadd (v := nI (SKn.getD i 0 + 16)) hC dJ5_init_a7421_18 (nI_add _ 16) ?_
  refine J_goto (tgt := 24) hC dJ5_init_a7421_19 (by decide) ?_
  refine J_istore_n hC [(3, .int (nI (SKn.getD i 0 + 16))), (2, .int (nI (SKn.getD i 0))), (0, .ref p), (1, .ref (G.2.2.1 i))] dJ5_init_a7421_24 rfl (by decide) rfl ?_
  refine J_aload_n hC dJ5_init_a7421_25 3 rfl rfl ?_
  refine J_callVis (i := i) hC dJ5_init_a7421_26 wl_J5_40 yi_J0_coder_7d493 (c_J0_coder_7d493 _ G [(p, .inr (13, [.null, .int 0, .int 0, .int 0]))] i hi) rfl rfl hi ⟨Nat.le_of_ble_eq_true rfl, Nat.le_of_ble_eq_true rfl⟩ (Nat.le_of_ble_eq_true rfl) (Nat.le_of_ble_eq_true rfl) (Nat.le_of_ble_eq_true rfl) (fun r u h9 => ?_)
  subst h9
  refine J_istore hC [(4, .int 0), (3, .int (nI (SKn.getD i 0 + 16))), (2, .int (nI (SKn.getD i 0))), (0, .ref p), (1, .ref (G.2.2.1 i))] dJ5_init_a7421_29 (by decide) rfl ?_
  refine J_aload_n hC dJ5_init_a7421_31 3 rfl rfl ?_
  refine J_iload hC dJ5_init_a7421_32 0 rfl ?_
  refine J_put (ws' := [(p, .inr (13, [.null, .int 0, .int 0, .int 0]))]) hC wu_J4 rfl tyJ4_ok nmJ4 dJ5_init_a7421_34 0 1 (by decide) wf_J5_22 rfl rfl (Nat.le_of_ble_eq_true rfl) rfl rfl rfl ?_
  refine J_aload_n hC dJ5_init_a7421_37 3 rfl rfl ?_
  refine J_iload hC dJ5_init_a7421_38 0 rfl ?_
  refine J_if_ne (tgt := 49) hC dJ5_init_a7421_40 (by decide) (fun c => absurd rfl c) (fun _ => ?_)
  refine J_iload_n hC dJ5_init_a7421_43 1 rfl rfl ?_
  refine J_newB hC dJ5_init_a7421_44 (by omega) (Nat.le_of_ble_eq_true rfl) (by show 0 + 0 + 0 + (SKn.getD i 0 + 16) ≤ 600; omega) (fun v => ?_)
  refine J_goto (tgt := 53) hC dJ5_init_a7421_46 (by decide) ?_
  refine J_put (ws' := sbW G p v (SKn.getD i 0 + 16) 0 (fun _ => 0)) hC wu_J4 rfl tyJ4_ok nmJ4 dJ5_init_a7421_53 0 0 (by decide) wf_J5_15 rfl rfl (Nat.le_of_ble_eq_true rfl) rfl rfl rfl ?_
  refine J_aload_n hC dJ5_init_a7421_56 3 rfl rfl ?_
  refine J_aload_n hC dJ5_init_a7421_57 4 rfl rfl ?_
  refine J_callUa hC dJ5_init_a7421_58 yu_J5_43 (c_sb_strB _ G p v (SKn.getD i 0 + 16) 0 (fun _ => 0) i hi (by omega) (by omega) sb_fit0 (by omega)) rfl rfl 0 13 rfl rfl ⟨Nat.le_of_ble_eq_true rfl, Nat.le_of_ble_eq_true rfl⟩ (Nat.le_of_ble_eq_true rfl) (Nat.le_of_ble_eq_true rfl) (by show 0 + (SKn.getD i 0 + 16) + 300 ≤ 600; omega) (fun u hu => ?_)
  refine J_pop hC dJ5_init_a7421_61 rfl ?_
  obtain ⟨v2, m2, a2⟩ := u
  obtain ⟨g1, g2, g3, g4, g5⟩ := hu
  dsimp only at g1 g2 g3 g4 g5 ⊢
  refine J_vret hC hR dJ5_init_a7421_62 (v2, m2, a2) ⟨by show _ ≤ m2; omega, g2, fun j hj => ?_, g5⟩ ?_ (by decide) (by show 0 + (SKn.getD i 0 + 16) + 300 ≤ 600; omega)
  · show a2 j = _
    rw [← g4 j hj, Nat.zero_add]
  · rw [Nat.zero_add]

set_option maxRecDepth 100000 in
theorem c_sb_ini (l : Launch) (G : gT) (p i : Nat) (hi : i < 14) (hq : SKn.getD i 0 ≤ 100) : MV l yJ4_init_a7421 cJ4_init_a7421 2 { frames := 8, cells := 2, slots := 600, locals := 210 } [.ref p, .ref (G.2.2.1 i)] G ([(p, .inr (13, [.null, .int 0, .int 0, .int 0]))]) (fun (u : Nat × Nat × (Nat → Int32)) => SKn.getD i 0 ≤ u.2.1 ∧ u.2.1 ≤ 300 ∧ (∀ j, j < SKn.getD i 0 → u.2.2 j = (SKb.getD i []).getD j 0) ∧ sb_Fit u.2.2) (fun u => sbW G p u.1 u.2.1 (SKn.getD i 0) u.2.2) := by
  refine jm_v (own := RJ4) (by decide) rfl (Nat.le_of_ble_eq_true rfl) (fun x hl hC hR hN => ?_)
  subst hl
  refine J_aload_n hC dJ4_init_a7421_0 0 rfl rfl ?_
  refine J_aload_n hC dJ4_init_a7421_1 1 rfl rfl ?_
  refine J_callC hC dJ4_init_a7421_2 wl_J4_7 yc_J5_init_a7421 (c_sb_ini5 _ G p i hi hq) rfl rfl ⟨Nat.le_of_ble_eq_true rfl, Nat.le_of_ble_eq_true rfl⟩ (Nat.le_of_ble_eq_true rfl) (Nat.le_of_ble_eq_true rfl) (Nat.le_of_ble_eq_true rfl) (fun u hu => ?_)
  exact J_vret hC hR dJ4_init_a7421_5 u hu rfl (by decide) (by decide)

theorem J_cloneB {x : JX} {G : gT} {R : Room} {cc : ByteArray} {w0 : Cond} {own : String} {nL : Nat} {ws : va_W} {k n : Nat} {lv : List (Nat × Value)} {st : List Value} {pc : Nat} (hC : JC x G R cc w0 own nL) {a m : Nat} {f : Nat → Int32} {idx : Nat} (hd : decode cc pc = .ok (.invokevirtual idx, 3)) (hl : Cond.methodLink own idx ⟨"[B", "clone", "()Ljava/lang/Object;"⟩ ∈ GW) (q : Nat) (hq : ws[q]? = some (a, .inl (gc G 1, m, .inl f))) (hfit : ∀ i, i < m → fits .byte (.int (f i)) = true) (hf : 1 ≤ R.frames) (hlo : (st.map fun v => v.category).sum + 14 ≤ R.locals) (hk : k + 1 ≤ R.cells) (hn : n + m ≤ R.slots)
    (kk : ∀ t, J x G (ws ++ [(t, .inl (gc G 1, m, .inl f))]) (k + 1) (n + m) lv (.ref t :: st) (pc + 3)) : J x G ws k n lv (.ref a :: st) pc := by
  intro H locs ls hP hD hS hL
  have hRR : jR x = R := hC.2.2.2.2.2.2.2.1
  have hK := hC.2.2.2.2.2.1
  refine va_clone hC.1 hC.2.1 hL.1.symm hC.2.2.2.1 (JC_w hC hl) (JC_w hC wcl_same) (JC_w hC wcl_nat) (JC_w hC wcl_inst) (JC_w hC wcl_sel) (JC_F hC).2.2.2.2.2.2 hK hP hD hS hC.2.2.2.2.2.2.1 q 1 hq rfl (hK.2 1 (gc G 1, .byte) rfl).2 (fun i v h => ?_) (by rw [hRR]; exact hf) (by rw [hRR]; exact hlo) (by rw [hRR]; exact hk) (by rw [hRR]; exact hn) hd (fun t H1 _ hP1 hD1 hS1 => kk t H1 locs ls hP1 hD1 hS1 hL)
  have hlt : i < m := by
    have := (Array.getElem?_eq_some_iff.mp h).1
    rw [show (vp_cell (gc G 1) (m, .inl f)).slots.size = m from arrV_size _ _ _] at this
    exact this
  have e : (vp_cell (gc G 1) (m, .inl f)).slots[i]? = some (.int (f i)) := arrV_read _ _ hlt
  rw [e] at h
  cases h
  exact hfit i hlt
theorem J_castB {x : JX} {G : gT} {R : Room} {cc : ByteArray} {w0 : Cond} {own : String} {nL : Nat} {ws : va_W} {k n : Nat} {lv : List (Nat × Value)} {st : List Value} {pc : Nat} (hC : JC x G R cc w0 own nL) {a m : Nat} {f : Nat → Int32} {idx : Nat} (hd : decode cc pc = .ok (.checkcast idx, 3)) (hl : Cond.classLink own idx "[B" ∈ GW) (q : Nat) (hq : ws[q]? = some (a, .inl (gc G 1, m, .inl f))) (kk : J x G ws k n lv (.ref a :: st) (pc + 3)) : J x G ws k n lv (.ref a :: st) pc :=
  fun H locs ls hP hD hS hL => va_castA hC.1 hC.2.1 hC.2.2.2.1 (JC_w hC hl) hP q hq (hC.2.2.2.2.2.1.2 1 (gc G 1, .byte) rfl).2 hd (kk H locs ls hP hD hS hL)
set_option maxRecDepth 100000 in
theorem c_chkL (l : Launch) (G : gT) (ws0 : va_W) (n : Nat) (hn : n ≤ 300) : MV l yJ7_checkLength_df160 cJ7_checkLength_df160 2 { frames := 0, cells := 0, slots := 0, locals := 0 } [.int 0, .int (nI n)] G ws0 (fun (_ : Unit) => True) (fun _ => ws0) := by
  refine jm_v (own := RJ7) (by decide) rfl (Nat.le_of_ble_eq_true rfl) (fun x hl hC hR hN => ?_)
  subst hl
  refine J_iload_n hC dJ7_checkLength_df160_0 1 rfl rfl ?_
  refine J_iload_n hC dJ7_checkLength_df160_1 0 rfl rfl ?_
  refine J_ic_ge (tgt := 37) hC dJ7_checkLength_df160_2 (by decide) (fun _ => ?_) (fun c => absurd (nI_pos' (by omega)) c)
  exact J_vret hC hR dJ7_checkLength_df160_37 () trivial rfl (by decide) (by decide)

set_option maxRecDepth 100000 in
theorem c_cpyRB (l : Launch) (G : gT) (v m n : Nat) (a : Nat → Int32) (hn : n ≤ m) (hm : m ≤ 300) (hf : sb_Fit a) : MA l yJ7_copyOfRangeByte_39247 cJ7_copyOfRangeByte_39247 5 (some (FieldType.array FieldType.byte)) { frames := 1, cells := 1, slots := 300, locals := 40 } [.ref v, .int 0, .int (nI n)] G ([(v, .inl (gc G 1, m, .inl a))]) (fun (u : Nat × (Nat → Int32)) => (∀ j, j < n → u.2 j = a j) ∧ sb_Fit u.2) (fun u => u.1) (fun u => [(v, .inl (gc G 1, m, .inl a)), (u.1, .inl (gc G 1, n, .inl u.2))]) := by
  refine jm_a (own := RJ7) (by decide) rfl (Or.inr ⟨_, rfl⟩) (Nat.le_of_ble_eq_true rfl) (fun x hl hC hR => ?_)
  subst hl
  refine J_iload_n hC dJ7_copyOfRangeByte_39247_0 1 rfl rfl ?_
  refine J_iload_n hC dJ7_copyOfRangeByte_39247_1 2 rfl rfl ?_
  refine J_callSv hC dJ7_copyOfRangeByte_39247_2 wl_J7_343 wi_J7 yi_J7_checkLength_df160 (c_chkL _ G [(v, .inl (gc G 1, m, .inl a))] n (by omega)) rfl rfl ⟨Nat.le_of_ble_eq_true rfl, Nat.le_of_ble_eq_true rfl⟩ (Nat.le_of_ble_eq_true rfl) (Nat.le_of_ble_eq_true rfl) (Nat.le_of_ble_eq_true rfl) (fun u h9 => ?_)
  refine J_iload_n hC dJ7_copyOfRangeByte_39247_5 2 rfl rfl ?_
  refine J_iload_n hC dJ7_copyOfRangeByte_39247_6 1 rfl rfl ?_
  refine J_isub (v := nI n) hC dJ7_copyOfRangeByte_39247_7 (Int32.sub_zero _) ?_
  refine J_istore_n hC [(3, .int (nI n)), (0, .ref v), (1, .int 0), (2, .int (nI n))] dJ7_copyOfRangeByte_39247_8 rfl (by decide) rfl ?_
  refine J_iload_n hC dJ7_copyOfRangeByte_39247_9 0 rfl rfl ?_
  refine J_newB hC dJ7_copyOfRangeByte_39247_10 (by omega) (Nat.le_of_ble_eq_true rfl) (by show 0 + 0 + n ≤ 300; omega) (fun t => ?_)
  refine J_astore hC [(4, .ref t), (3, .int (nI n)), (0, .ref v), (1, .int 0), (2, .int (nI n))] dJ7_copyOfRangeByte_39247_12 (by decide) rfl ?_
  refine J_aload_n hC dJ7_copyOfRangeByte_39247_14 2 rfl rfl ?_
  refine J_iload_n hC dJ7_copyOfRangeByte_39247_15 3 rfl rfl ?_
  refine J_aload hC dJ7_copyOfRangeByte_39247_16 0 rfl ?_
  refine J_iconst (v := 0) hC dJ7_copyOfRangeByte_39247_18 rfl ?_
  refine J_aload_n hC dJ7_copyOfRangeByte_39247_19 2 rfl rfl ?_
  refine J_alen hC dJ7_copyOfRangeByte_39247_20 0 rfl (t := 1) rfl ?_
  refine J_iload_n hC dJ7_copyOfRangeByte_39247_21 3 rfl rfl ?_
  refine J_isub (v := nI m) hC dJ7_copyOfRangeByte_39247_22 (Int32.sub_zero _) ?_
  refine J_iload_n hC dJ7_copyOfRangeByte_39247_23 1 rfl rfl ?_
  refine J_mmin (v := nI n) hC dJ7_copyOfRangeByte_39247_24 wl_J7_304 (by decide) (Nat.le_of_ble_eq_true rfl) (by decide) (by show 0 + 0 + n ≤ 300; omega) ?_ ?_
  · split
    · rfl
    · rename_i h9; rw [nI_ltI (by omega) (by omega)] at h9; exact congrArg nI (by omega)
  refine J_copyB (sp := 0) (dp := 0) hC dJ7_copyOfRangeByte_39247_27 wl_J7_150 0 1 rfl rfl (by omega) (by omega) (by omega) (by omega) (fun i _ => hf _) (by decide) (by decide) rfl ?_
  refine J_aload hC dJ7_copyOfRangeByte_39247_30 0 rfl ?_
  exact J_aret hC hR dJ7_copyOfRangeByte_39247_32 (t, va_cpy a (fun _ => 0) 0 0 n) ⟨fun j hj => (show va_cpy a (fun _ => 0) 0 0 n j = a j from sb_cpy0 hj), sb_fitC hf sb_fit0⟩ rfl rfl (by decide) (by show 0 + 0 + n ≤ 300; omega)

set_option maxRecDepth 100000 in
theorem c_cpyR (l : Launch) (G : gT) (v m n : Nat) (a : Nat → Int32) (hn : n ≤ m) (hm : m ≤ 300) (hf : sb_Fit a) : MA l yJ7_copyOfRange_39247 cJ7_copyOfRange_39247 3 (some (FieldType.array FieldType.byte)) { frames := 2, cells := 1, slots := 300, locals := 65 } [.ref v, .int 0, .int (nI n)] G ([(v, .inl (gc G 1, m, .inl a))]) (fun (u : Nat × (Nat → Int32)) => (∀ j, j < n → u.2 j = a j) ∧ sb_Fit u.2) (fun u => u.1) (fun u => [(v, .inl (gc G 1, m, .inl a)), (u.1, .inl (gc G 1, n, .inl u.2))]) := by
  refine jm_a (own := RJ7) (by decide) rfl (Or.inr ⟨_, rfl⟩) (Nat.le_of_ble_eq_true rfl) (fun x hl hC hR => ?_)
  subst hl
  refine J_iload_n hC dJ7_copyOfRange_39247_0 1 rfl rfl ?_
  refine J_if_ne (tgt := 10) hC dJ7_copyOfRange_39247_1 (by decide) (fun c => absurd rfl c) (fun _ => ?_)
  refine J_iload_n hC dJ7_copyOfRange_39247_4 2 rfl rfl ?_
  refine J_aload_n hC dJ7_copyOfRange_39247_5 0 rfl rfl ?_
  refine J_alen hC dJ7_copyOfRange_39247_6 0 rfl (t := 1) rfl ?_
  dsimp only
  refine J_ic_eqN (a := n) (b := m) (tgt := 17) hC dJ7_copyOfRange_39247_7 (by decide) (by omega) (by omega) (fun c => ?_) (fun c => ?_)
  · subst c
    refine J_aload_n hC dJ7_copyOfRange_39247_17 0 rfl rfl ?_
    refine J_cloneB hC dJ7_copyOfRange_39247_18 wcl_link 0 rfl (fun i _ => hf i) (by decide) (Nat.le_of_ble_eq_true rfl) (by decide) (by show 0 + n ≤ 300; omega) (fun t => ?_)
    refine J_castB hC dJ7_copyOfRange_39247_21 wcl_cls 1 rfl ?_
    exact J_aret hC hR dJ7_copyOfRange_39247_24 (t, a) ⟨fun _ _ => rfl, hf⟩ rfl rfl (by decide) (by show 0 + n ≤ 300; omega)
  · refine J_aload_n hC dJ7_copyOfRange_39247_10 0 rfl rfl ?_
    refine J_iload_n hC dJ7_copyOfRange_39247_11 1 rfl rfl ?_
    refine J_iload_n hC dJ7_copyOfRange_39247_12 2 rfl rfl ?_
    refine J_callSa hC dJ7_copyOfRange_39247_13 wl_J7_339 wi_J7 yi_J7_copyOfRangeByte_39247 (c_cpyRB _ G v m n a hn hm hf) rfl rfl ⟨Nat.le_of_ble_eq_true rfl, Nat.le_of_ble_eq_true rfl⟩ (Nat.le_of_ble_eq_true rfl) (Nat.le_of_ble_eq_true rfl) (Nat.le_of_ble_eq_true rfl) (fun u hu => ?_)
    exact J_aret hC hR dJ7_copyOfRange_39247_16 u hu rfl rfl (by decide) (by decide)

set_option maxRecDepth 100000 in
theorem c_sg_ini2 (l : Launch) (G : gT) (t p v m n : Nat) (a : Nat → Int32) (hnm : n ≤ m) (hm : m ≤ 300) (hf : sb_Fit a) : MV l yJ0_init_db425 cJ0_init_db425 5 { frames := 3, cells := 1, slots := 300, locals := 95 } [.ref t, .ref p, .null] G ([(t, .inr (12, [.null, .int 0, .int 0, .int 0]))] ++ sbW G p v m n a) (fun (u : Nat × (Nat → Int32)) => (∀ j, j < n → u.2 j = a j) ∧ sb_Fit u.2) (fun u => sgW G t u.1 n u.2 ++ sbW G p v m n a) := by
  refine jm_v (own := RJ0) (by decide) rfl (Nat.le_of_ble_eq_true rfl) (fun x hl hC hR hN => ?_)
  subst hl
  refine J_aload_n hC dJ0_init_db425_0 0 rfl rfl ?_
  refine J_oinit hC dJ0_init_db425_1 wl_J0_1 (by decide) (by decide) ?_
  refine J_aload_n hC dJ0_init_db425_4 1 rfl rfl ?_
  refine J_callUa hC dJ0_init_db425_5 yu_J0_552 (appr_a [(t, .inr (12, [.null, .int 0, .int 0, .int 0]))] (c_sb_getV _ G p v m n a)) rfl rfl 1 13 rfl rfl ⟨Nat.le_of_ble_eq_true rfl, Nat.le_of_ble_eq_true rfl⟩ (Nat.le_of_ble_eq_true rfl) (Nat.le_of_ble_eq_true rfl) (Nat.le_of_ble_eq_true rfl) (fun u9 h9 => ?_)
  refine J_astore_n hC [(3, .ref v), (0, .ref t), (1, .ref p), (2, .null)] dJ0_init_db425_8 rfl (by decide) rfl ?_
  refine J_aload_n hC dJ0_init_db425_9 2 rfl rfl ?_
  refine J_callUi hC dJ0_init_db425_10 yu_J0_549 (appr_i [(t, .inr (12, [.null, .int 0, .int 0, .int 0]))] (c_sb_len _ G p v m n a)) rfl rfl 1 13 rfl rfl ⟨Nat.le_of_ble_eq_true rfl, Nat.le_of_ble_eq_true rfl⟩ (Nat.le_of_ble_eq_true rfl) (Nat.le_of_ble_eq_true rfl) (Nat.le_of_ble_eq_true rfl) (fun r u8 h8 => ?_)
  subst h8
  refine J_istore hC [(4, .int (nI n)), (3, .ref v), (0, .ref t), (1, .ref p), (2, .null)] dJ0_init_db425_13 (by decide) rfl ?_
  refine J_aload_n hC dJ0_init_db425_15 3 rfl rfl ?_
  refine J_callUi hC dJ0_init_db425_16 yu_J0_1047 (appr_i [(t, .inr (12, [.null, .int 0, .int 0, .int 0]))] (c_sb_isL _ G p v m n a)) rfl rfl 1 13 rfl rfl ⟨Nat.le_of_ble_eq_true rfl, Nat.le_of_ble_eq_true rfl⟩ (Nat.le_of_ble_eq_true rfl) (Nat.le_of_ble_eq_true rfl) (Nat.le_of_ble_eq_true rfl) (fun r u7 h7 => ?_)
  subst h7
  refine J_if_eq (tgt := 41) hC dJ0_init_db425_19 (by decide) (fun c => absurd c (by decide)) (fun _ => ?_)
  refine J_aload_n hC dJ0_init_db425_22 2 rfl rfl ?_
  refine J_iconst (v := 0) hC dJ0_init_db425_23 rfl ?_
  refine J_putF (ws' := [(t, .inr (12, [.null, .int 0, .int 0, .int 0]))] ++ sbW G p v m n a) hC wu_J0 rfl tyJ0_ok nmJ0 hN dJ0_init_db425_24 0 1 (by decide) wf_J0_15 rfl rfl rfl (Nat.le_of_ble_eq_true rfl) rfl rfl rfl ?_
  refine J_aload_n hC dJ0_init_db425_27 2 rfl rfl ?_
  refine J_aload_n hC dJ0_init_db425_28 1 rfl rfl ?_
  refine J_iconst (v := 0) hC dJ0_init_db425_29 rfl ?_
  refine J_iload hC dJ0_init_db425_30 0 rfl ?_
  refine J_callSa hC dJ0_init_db425_32 wl_J0_54 wi_J0 yi_J7_copyOfRange_39247 (appr_a [(t, .inr (12, [.null, .int 0, .int 0, .int 0])), (p, .inr (13, [.ref v, .int 0, .int 0, .int (nI n)]))] (c_cpyR _ G v m n a hnm hm hf)) rfl rfl ⟨Nat.le_of_ble_eq_true rfl, Nat.le_of_ble_eq_true rfl⟩ (Nat.le_of_ble_eq_true rfl) (Nat.le_of_ble_eq_true rfl) (Nat.le_of_ble_eq_true rfl) (fun u hu => ?_)
  obtain ⟨z, a2⟩ := u
  dsimp only at hu ⊢
  refine J_putF (ws' := [(t, .inr (12, [.ref z, .int 0, .int 0, .int 0])), (p, .inr (13, [.ref v, .int 0, .int 0, .int (nI n)])), (v, .inl (gc G 1, m, .inl a)), (z, .inl (gc G 1, n, .inl a2))]) hC wu_J0 rfl tyJ0_ok nmJ0 hN dJ0_init_db425_35 0 0 (by decide) wf_J0_9 rfl rfl rfl (Nat.le_of_ble_eq_true rfl) rfl rfl rfl ?_
  refine J_goto (tgt := 97) hC dJ0_init_db425_38 (by decide) ?_
  refine J_perm (ws' := sgW G t z n a2 ++ sbW G p v m n a) (List.Perm.cons _ (List.perm_append_comm (l₁ := [_, _]) (l₂ := [_]))) ?_
  exact J_vret hC hR dJ0_init_db425_97 (z, a2) hu rfl (by decide) (by decide)

set_option maxRecDepth 100000 in
theorem c_sg_ini (l : Launch) (G : gT) (t p v m n : Nat) (a : Nat → Int32) (hnm : n ≤ m) (hm : m ≤ 300) (hf : sb_Fit a) : MV l yJ0_init_81219 cJ0_init_81219 2 { frames := 4, cells := 1, slots := 300, locals := 125 } [.ref t, .ref p] G ([(t, .inr (12, [.null, .int 0, .int 0, .int 0]))] ++ sbW G p v m n a) (fun (u : Nat × (Nat → Int32)) => (∀ j, j < n → u.2 j = a j) ∧ sb_Fit u.2) (fun u => sgW G t u.1 n u.2 ++ sbW G p v m n a) := by
  refine jm_v (own := RJ0) (by decide) rfl (Nat.le_of_ble_eq_true rfl) (fun x hl hC hR hN => ?_)
  subst hl
  refine J_aload_n hC dJ0_init_81219_0 0 rfl rfl ?_
  refine J_aload_n hC dJ0_init_81219_1 1 rfl rfl ?_
  refine J_aconst hC dJ0_init_81219_2 ?_
  refine J_callC hC dJ0_init_81219_3 wl_J0_489 yc_J0_init_db425 (c_sg_ini2 _ G t p v m n a hnm hm hf) rfl rfl ⟨Nat.le_of_ble_eq_true rfl, Nat.le_of_ble_eq_true rfl⟩ (Nat.le_of_ble_eq_true rfl) (Nat.le_of_ble_eq_true rfl) (Nat.le_of_ble_eq_true rfl) (fun u hu => ?_)
  exact J_vret hC hR dJ0_init_81219_6 u hu rfl (by decide) (by decide)

set_option maxRecDepth 100000 in
theorem c_sb_toS (l : Launch) (G : gT) (p v m n : Nat) (a : Nat → Int32) (hnm : n ≤ m) (hm : m ≤ 300) (hf : sb_Fit a) : MA l yJ4_toString_0e30d cJ4_toString_0e30d 1 (some (FieldType.object "java/lang/String")) { frames := 5, cells := 2, slots := 304, locals := 150 } [.ref p] G (sbW G p v m n a) (fun (u : Nat × Nat × (Nat → Int32)) => (∀ j, j < n → u.2.2 j = a j) ∧ sb_Fit u.2.2) (fun u => u.1) (fun u => sgW G u.1 u.2.1 n u.2.2 ++ sbW G p v m n a) := by
  refine jm_a (own := RJ4) (by decide) rfl (Or.inl ⟨_, rfl⟩) (Nat.le_of_ble_eq_true rfl) (fun x hl hC hR => ?_)
  subst hl
  refine J_new (ci := 12) hC [.null, .int 0, .int 0, .int 0] wu_J0 rfl tyJ0_ok dJ4_toString_0e30d_0 wk_J4_18 wt_J0 wi_J0 (fun j hj => by rcases (show j = 0 ∨ j = 1 ∨ j = 2 ∨ j = 3 by omega) with rfl | rfl | rfl | rfl <;> rfl) (by decide) (by decide) (fun t => ?_)
  refine J_perm (ws' := [(t, .inr (12, [.null, .int 0, .int 0, .int 0]))] ++ sbW G p v m n a) List.perm_append_comm ?_
  refine J_dup hC dJ4_toString_0e30d_3 rfl ?_
  refine J_aload_n hC dJ4_toString_0e30d_4 0 rfl rfl ?_
  refine J_callC hC dJ4_toString_0e30d_5 wl_J4_137 yc_J0_init_81219 (c_sg_ini _ G t p v m n a hnm hm hf) rfl rfl ⟨Nat.le_of_ble_eq_true rfl, Nat.le_of_ble_eq_true rfl⟩ (Nat.le_of_ble_eq_true rfl) (Nat.le_of_ble_eq_true rfl) (Nat.le_of_ble_eq_true rfl) (fun u hu => ?_)
  exact J_aret hC hR dJ4_toString_0e30d_8 (t, u) hu rfl rfl (by decide) (by decide)

set_option maxRecDepth 100000 in
theorem c_sg_cod (l : Launch) (G : gT) (t z m : Nat) (a : Nat → Int32) : MI l yJ0_coder_7d493 cJ0_coder_7d493 1 (some FieldType.byte) { frames := 0, cells := 0, slots := 0, locals := 0 } [.ref t] G (sgW G t z m a) (fun r (_ : Unit) => r = 0) (fun _ => sgW G t z m a) := by
  refine jm_i (own := RJ0) (by decide) rfl (Nat.le_of_ble_eq_true rfl) (fun x hl hC hR hN => ?_)
  subst hl
  refine J_gz hC dJ0_coder_7d493_0 wf_J0_38 ?_
  refine J_if_eq (tgt := 13) hC dJ0_coder_7d493_3 (by decide) (fun c => absurd c (by decide)) (fun _ => ?_)
  refine J_aload_n hC dJ0_coder_7d493_6 0 rfl rfl ?_
  refine J_get (v := .int 0) hC wu_J0 rfl dJ0_coder_7d493_7 0 1 (by decide) wf_J0_15 rfl rfl ?_
  refine J_goto (tgt := 14) hC dJ0_coder_7d493_10 (by decide) ?_
  exact J_iret hC hR dJ0_coder_7d493_14 rfl () rfl rfl (by decide) (by decide)

set_option maxRecDepth 100000 in
theorem c_sg_len (l : Launch) (G : gT) (t z m : Nat) (a : Nat → Int32) : MI l yJ0_length_8abf5 cJ0_length_8abf5 1 (some FieldType.int) { frames := 1, cells := 0, slots := 0, locals := 22 } [.ref t] G (sgW G t z m a) (fun r (_ : Unit) => r = nI m) (fun _ => sgW G t z m a) := by
  refine jm_i (own := RJ0) (by decide) rfl (Nat.le_of_ble_eq_true rfl) (fun x hl hC hR hN => ?_)
  subst hl
  refine J_aload_n hC dJ0_length_8abf5_0 0 rfl rfl ?_
  refine J_get (v := .ref z) hC wu_J0 rfl dJ0_length_8abf5_1 0 0 (by decide) wf_J0_9 rfl rfl ?_
  refine J_alen hC dJ0_length_8abf5_4 1 rfl (t := 1) rfl ?_
  refine J_aload_n hC dJ0_length_8abf5_5 0 rfl rfl ?_
  dsimp only
  refine J_callVi hC dJ0_length_8abf5_6 wl_J0_335 yi_J0_coder_7d493 (c_sg_cod _ G t z m a) rfl rfl 0 12 rfl rfl ⟨Nat.le_of_ble_eq_true rfl, Nat.le_of_ble_eq_true rfl⟩ (Nat.le_of_ble_eq_true rfl) (Nat.le_of_ble_eq_true rfl) (Nat.le_of_ble_eq_true rfl) (fun r u h9 => ?_)
  subst h9
  refine J_ishr (v := nI m) hC dJ0_length_8abf5_9 (sb_shr0 _) ?_
  exact J_iret hC hR dJ0_length_8abf5_10 rfl () rfl rfl (by decide) (by decide)

set_option maxRecDepth 100000 in
theorem c_sg_isL (l : Launch) (G : gT) (t z m : Nat) (a : Nat → Int32) : MI l yJ0_isLatin1_aae02 cJ0_isLatin1_aae02 1 (some FieldType.boolean) { frames := 0, cells := 0, slots := 0, locals := 0 } [.ref t] G (sgW G t z m a) (fun r (_ : Unit) => r = 1) (fun _ => sgW G t z m a) := by
  refine jm_i (own := RJ0) (by decide) rfl (Nat.le_of_ble_eq_true rfl) (fun x hl hC hR hN => ?_)
  subst hl
  refine J_gz hC dJ0_isLatin1_aae02_0 wf_J0_38 ?_
  refine J_if_eq (tgt := 17) hC dJ0_isLatin1_aae02_3 (by decide) (fun c => absurd c (by decide)) (fun _ => ?_)
  refine J_aload_n hC dJ0_isLatin1_aae02_6 0 rfl rfl ?_
  refine J_get (v := .int 0) hC wu_J0 rfl dJ0_isLatin1_aae02_7 0 1 (by decide) wf_J0_15 rfl rfl ?_
  refine J_if_ne (tgt := 17) hC dJ0_isLatin1_aae02_10 (by decide) (fun c => absurd rfl c) (fun _ => ?_)
  refine J_iconst (v := 1) hC dJ0_isLatin1_aae02_13 rfl ?_
  refine J_goto (tgt := 18) hC dJ0_isLatin1_aae02_14 (by decide) ?_
  exact J_iret hC hR dJ0_isLatin1_aae02_18 rfl () rfl rfl (by decide) (by decide)

set_option maxRecDepth 100000 in
theorem c_sg_at1 (l : Launch) (G : gT) (z m : Nat) (a : Nat → Int32) (i c : Nat) (hi : i < m) (hm : m ≤ 300) (hc : c < 128) (ha : a i = nI c) : MI l yJ1_charAt_3b067 cJ1_charAt_3b067 2 (some FieldType.char) { frames := 2, cells := 0, slots := 0, locals := 43 } [.ref z, .int (nI i)] G ([(z, .inl (gc G 1, m, .inl a))]) (fun r (_ : Unit) => r = nI c) (fun _ => [(z, .inl (gc G 1, m, .inl a))]) := by
  refine jm_i (own := RJ1) (by decide) rfl (Nat.le_of_ble_eq_true rfl) (fun x hl hC hR hN => ?_)
  subst hl
  have hand : nI c &&& nI 255 = nI c := by
    have : ∀ c : Fin 128, nI c.val &&& nI 255 = nI c.val := by decide +kernel
    exact this ⟨c, hc⟩
  have hchr : ((nI c).toUInt32 % 65536).toInt32 = nI c := c255 c (by omega)
  have hnar : narrow .char (.int (nI c)) = .int (nI c) := by
    have : ∀ c : Fin 128, narrow .char (.int (nI c.val)) = .int (nI c.val) := by decide +kernel
    exact this ⟨c, hc⟩
  refine J_iload_n hC dJ1_charAt_3b067_0 1 rfl rfl ?_
  refine J_aload_n hC dJ1_charAt_3b067_1 0 rfl rfl ?_
  refine J_alen hC dJ1_charAt_3b067_2 0 rfl (t := 1) rfl ?_
  dsimp only
  refine J_callSv hC dJ1_charAt_3b067_3 wl_J1_9 wi_J1 yi_J0_checkIndex_df160 (c_J0_checkIndex_df160 _ G [(z, .inl (gc G 1, m, .inl a))] i m hi (by omega)) rfl rfl ⟨Nat.le_of_ble_eq_true rfl, Nat.le_of_ble_eq_true rfl⟩ (Nat.le_of_ble_eq_true rfl) (Nat.le_of_ble_eq_true rfl) (Nat.le_of_ble_eq_true rfl) (fun u h9 => ?_)
  refine J_aload_n hC dJ1_charAt_3b067_6 0 rfl rfl ?_
  refine J_iload_n hC dJ1_charAt_3b067_7 1 rfl rfl ?_
  refine J_bald (v := nI c) hC dJ1_charAt_3b067_8 0 rfl hi (by omega) ha ?_
  refine J_sipush (v := nI 255) hC dJ1_charAt_3b067_9 rfl ?_
  refine J_iand (v := nI c) hC dJ1_charAt_3b067_12 hand ?_
  refine J_i2c (v := nI c) hC dJ1_charAt_3b067_13 hchr ?_
  exact J_iret hC hR dJ1_charAt_3b067_14 hnar () rfl rfl (by decide) (by decide)

set_option maxRecDepth 100000 in
theorem c_sg_at (l : Launch) (G : gT) (t z m : Nat) (a : Nat → Int32) (i c : Nat) (hi : i < m) (hm : m ≤ 300) (hc : c < 128) (ha : a i = nI c) : MI l yJ0_charAt_5068e cJ0_charAt_5068e 2 (some FieldType.char) { frames := 3, cells := 0, slots := 0, locals := 64 } [.ref t, .int (nI i)] G (sgW G t z m a) (fun r (_ : Unit) => r = nI c) (fun _ => sgW G t z m a) := by
  refine jm_i (own := RJ0) (by decide) rfl (Nat.le_of_ble_eq_true rfl) (fun x hl hC hR hN => ?_)
  subst hl
  have hand : nI c &&& nI 255 = nI c := by
    have : ∀ c : Fin 128, nI c.val &&& nI 255 = nI c.val := by decide +kernel
    exact this ⟨c, hc⟩
  have hchr : ((nI c).toUInt32 % 65536).toInt32 = nI c := c255 c (by omega)
  have hnar : narrow .char (.int (nI c)) = .int (nI c) := by
    have : ∀ c : Fin 128, narrow .char (.int (nI c.val)) = .int (nI c.val) := by decide +kernel
    exact this ⟨c, hc⟩
  refine J_aload_n hC dJ0_charAt_5068e_0 0 rfl rfl ?_
  refine J_callVi hC dJ0_charAt_5068e_1 wl_J0_492 yi_J0_isLatin1_aae02 (c_sg_isL _ G t z m a) rfl rfl 0 12 rfl rfl ⟨Nat.le_of_ble_eq_true rfl, Nat.le_of_ble_eq_true rfl⟩ (Nat.le_of_ble_eq_true rfl) (Nat.le_of_ble_eq_true rfl) (Nat.le_of_ble_eq_true rfl) (fun r u h9 => ?_)
  subst h9
  refine J_if_eq (tgt := 16) hC dJ0_charAt_5068e_4 (by decide) (fun c9 => absurd c9 (by decide)) (fun _ => ?_)
  refine J_aload_n hC dJ0_charAt_5068e_7 0 rfl rfl ?_
  refine J_get (v := .ref z) hC wu_J0 rfl dJ0_charAt_5068e_8 0 0 (by decide) wf_J0_9 rfl rfl ?_
  refine J_iload_n hC dJ0_charAt_5068e_11 1 rfl rfl ?_
  refine J_callSi hC dJ0_charAt_5068e_12 wl_J0_495 wi_J0 yi_J1_charAt_3b067 (appr_i [(t, .inr (12, [.ref z, .int 0, .int 0, .int 0]))] (c_sg_at1 _ G z m a i c hi hm hc ha)) rfl rfl ⟨Nat.le_of_ble_eq_true rfl, Nat.le_of_ble_eq_true rfl⟩ (Nat.le_of_ble_eq_true rfl) (Nat.le_of_ble_eq_true rfl) (Nat.le_of_ble_eq_true rfl) (fun r u h9 => ?_)
  subst h9
  exact J_iret hC hR dJ0_charAt_5068e_15 hnar () rfl rfl (by decide) (by decide)

theorem strq (q v : Nat) (hq : q < 2 ^ 31) (hv : v ≤ 1023) : -nI v ≤ -nI q ↔ q ≤ v := sb_nle (by omega) hq
set_option maxRecDepth 100000 in
theorem c_strSz (l : Launch) (G : gT) (ws0 : va_W) (v : Nat) (hv : v ≤ 1023) : MI l yJ6_stringSize_0f7a4 cJ6_stringSize_0f7a4 4 (some FieldType.int) { frames := 0, cells := 0, slots := 0, locals := 0 } [.int (nI v)] G ws0 (fun r (_ : Unit) => r = nI (dgs v)) (fun _ => ws0) := by
  refine jm_i (own := RJ6) (by decide) rfl (Nat.le_of_ble_eq_true rfl) (fun x hl hC hR hN => ?_)
  subst hl
  refine J_iconst (v := 1) hC dJ6_stringSize_0f7a4_0 rfl ?_
  refine J_istore_n hC [(1, .int 1), (0, .int (nI v))] dJ6_stringSize_0f7a4_1 rfl (by decide) rfl ?_
  refine J_iload_n hC dJ6_stringSize_0f7a4_2 1 rfl rfl ?_
  refine J_if_ltN (a := v) (tgt := 11) hC dJ6_stringSize_0f7a4_3 (by decide) (by omega) ?_
  refine J_iconst (v := 0) hC dJ6_stringSize_0f7a4_6 rfl ?_
  refine J_istore_n hC [(1, .int 0), (0, .int (nI v))] dJ6_stringSize_0f7a4_7 rfl (by decide) rfl ?_
  refine J_iload_n hC dJ6_stringSize_0f7a4_8 1 rfl rfl ?_
  refine J_ineg (v := -nI v) hC dJ6_stringSize_0f7a4_9 rfl ?_
  refine J_istore_n hC [(0, .int (-nI v)), (1, .int 0)] dJ6_stringSize_0f7a4_10 rfl (by decide) rfl ?_
  refine J_bipush (v := -10) hC dJ6_stringSize_0f7a4_11 (by decide +kernel) ?_
  refine J_istore_n hC [(2, .int (-10)), (0, .int (-nI v)), (1, .int 0)] dJ6_stringSize_0f7a4_13 rfl (by decide) rfl ?_
  refine J_iconst (v := 1) hC dJ6_stringSize_0f7a4_14 rfl ?_
  refine J_istore_n hC [(3, .int 1), (2, .int (-10)), (0, .int (-nI v)), (1, .int 0)] dJ6_stringSize_0f7a4_15 rfl (by decide) rfl ?_
  refine J_iload_n hC dJ6_stringSize_0f7a4_16 0 rfl rfl ?_
  refine J_bipush (v := 10) hC dJ6_stringSize_0f7a4_17 rfl ?_
  refine J_ic_ge (tgt := 42) hC dJ6_stringSize_0f7a4_19 (by decide) (fun c => absurd c (by decide)) (fun _ => ?_)
  refine J_iload_n hC dJ6_stringSize_0f7a4_22 2 rfl rfl ?_
  refine J_iload_n hC dJ6_stringSize_0f7a4_23 1 rfl rfl ?_
  refine J_ic_le (tgt := 31) hC dJ6_stringSize_0f7a4_24 (by decide) (fun c0 => ?_) (fun c0 => ?_)
  rotate_left
  · refine J_iload_n hC dJ6_stringSize_0f7a4_27 0 rfl rfl ?_
    refine J_iload_n hC dJ6_stringSize_0f7a4_28 3 rfl rfl ?_
    refine J_iadd (v := nI 1) hC dJ6_stringSize_0f7a4_29 rfl ?_
    exact J_iret hC hR dJ6_stringSize_0f7a4_30 rfl () (show nI 1 = nI (dgs v) from congrArg nI (by have h8 := Nat.lt_of_not_le (fun h => c0 ((strq 10 v (by decide) hv).mpr h)); unfold dgs; skip; (repeat' split) <;> omega)) rfl (by decide) (by decide)
  refine J_bipush (v := 10) hC dJ6_stringSize_0f7a4_31 rfl ?_
  refine J_iload_n hC dJ6_stringSize_0f7a4_33 1 rfl rfl ?_
  refine J_imul (v := -100) hC dJ6_stringSize_0f7a4_34 (by decide) ?_
  refine J_istore_n hC [(2, .int (-100)), (3, .int 1), (0, .int (-nI v)), (1, .int 0)] dJ6_stringSize_0f7a4_35 rfl (by decide) rfl ?_
  refine J_iinc hC [(3, .int 2), (2, .int (-100)), (0, .int (-nI v)), (1, .int 0)] dJ6_stringSize_0f7a4_36 1 rfl (by decide +kernel) (by decide) rfl ?_
  refine J_goto (tgt := 16) hC dJ6_stringSize_0f7a4_39 (by decide) ?_
  refine J_iload_n hC dJ6_stringSize_0f7a4_16 0 rfl rfl ?_
  refine J_bipush (v := 10) hC dJ6_stringSize_0f7a4_17 rfl ?_
  refine J_ic_ge (tgt := 42) hC dJ6_stringSize_0f7a4_19 (by decide) (fun c => absurd c (by decide)) (fun _ => ?_)
  refine J_iload_n hC dJ6_stringSize_0f7a4_22 2 rfl rfl ?_
  refine J_iload_n hC dJ6_stringSize_0f7a4_23 1 rfl rfl ?_
  refine J_ic_le (tgt := 31) hC dJ6_stringSize_0f7a4_24 (by decide) (fun c1 => ?_) (fun c1 => ?_)
  rotate_left
  · refine J_iload_n hC dJ6_stringSize_0f7a4_27 0 rfl rfl ?_
    refine J_iload_n hC dJ6_stringSize_0f7a4_28 3 rfl rfl ?_
    refine J_iadd (v := nI 2) hC dJ6_stringSize_0f7a4_29 rfl ?_
    exact J_iret hC hR dJ6_stringSize_0f7a4_30 rfl () (show nI 2 = nI (dgs v) from congrArg nI (by have h8 := Nat.lt_of_not_le (fun h => c1 ((strq 100 v (by decide) hv).mpr h)); unfold dgs; have g0 := (strq 10 v (by decide) hv).mp c0; (repeat' split) <;> omega)) rfl (by decide) (by decide)
  refine J_bipush (v := 10) hC dJ6_stringSize_0f7a4_31 rfl ?_
  refine J_iload_n hC dJ6_stringSize_0f7a4_33 1 rfl rfl ?_
  refine J_imul (v := -1000) hC dJ6_stringSize_0f7a4_34 (by decide) ?_
  refine J_istore_n hC [(2, .int (-1000)), (3, .int 2), (0, .int (-nI v)), (1, .int 0)] dJ6_stringSize_0f7a4_35 rfl (by decide) rfl ?_
  refine J_iinc hC [(3, .int 3), (2, .int (-1000)), (0, .int (-nI v)), (1, .int 0)] dJ6_stringSize_0f7a4_36 1 rfl (by decide +kernel) (by decide) rfl ?_
  refine J_goto (tgt := 16) hC dJ6_stringSize_0f7a4_39 (by decide) ?_
  refine J_iload_n hC dJ6_stringSize_0f7a4_16 0 rfl rfl ?_
  refine J_bipush (v := 10) hC dJ6_stringSize_0f7a4_17 rfl ?_
  refine J_ic_ge (tgt := 42) hC dJ6_stringSize_0f7a4_19 (by decide) (fun c => absurd c (by decide)) (fun _ => ?_)
  refine J_iload_n hC dJ6_stringSize_0f7a4_22 2 rfl rfl ?_
  refine J_iload_n hC dJ6_stringSize_0f7a4_23 1 rfl rfl ?_
  refine J_ic_le (tgt := 31) hC dJ6_stringSize_0f7a4_24 (by decide) (fun c2 => ?_) (fun c2 => ?_)
  rotate_left
  · refine J_iload_n hC dJ6_stringSize_0f7a4_27 0 rfl rfl ?_
    refine J_iload_n hC dJ6_stringSize_0f7a4_28 3 rfl rfl ?_
    refine J_iadd (v := nI 3) hC dJ6_stringSize_0f7a4_29 rfl ?_
    exact J_iret hC hR dJ6_stringSize_0f7a4_30 rfl () (show nI 3 = nI (dgs v) from congrArg nI (by have h8 := Nat.lt_of_not_le (fun h => c2 ((strq 1000 v (by decide) hv).mpr h)); unfold dgs; have g0 := (strq 10 v (by decide) hv).mp c0; have g1 := (strq 100 v (by decide) hv).mp c1; (repeat' split) <;> omega)) rfl (by decide) (by decide)
  refine J_bipush (v := 10) hC dJ6_stringSize_0f7a4_31 rfl ?_
  refine J_iload_n hC dJ6_stringSize_0f7a4_33 1 rfl rfl ?_
  refine J_imul (v := -10000) hC dJ6_stringSize_0f7a4_34 (by decide) ?_
  refine J_istore_n hC [(2, .int (-10000)), (3, .int 3), (0, .int (-nI v)), (1, .int 0)] dJ6_stringSize_0f7a4_35 rfl (by decide) rfl ?_
  refine J_iinc hC [(3, .int 4), (2, .int (-10000)), (0, .int (-nI v)), (1, .int 0)] dJ6_stringSize_0f7a4_36 1 rfl (by decide +kernel) (by decide) rfl ?_
  refine J_goto (tgt := 16) hC dJ6_stringSize_0f7a4_39 (by decide) ?_
  refine J_iload_n hC dJ6_stringSize_0f7a4_16 0 rfl rfl ?_
  refine J_bipush (v := 10) hC dJ6_stringSize_0f7a4_17 rfl ?_
  refine J_ic_ge (tgt := 42) hC dJ6_stringSize_0f7a4_19 (by decide) (fun c => absurd c (by decide)) (fun _ => ?_)
  refine J_iload_n hC dJ6_stringSize_0f7a4_22 2 rfl rfl ?_
  refine J_iload_n hC dJ6_stringSize_0f7a4_23 1 rfl rfl ?_
  refine J_ic_le (tgt := 31) hC dJ6_stringSize_0f7a4_24 (by decide) (fun c3 => ?_) (fun c3 => ?_)
  rotate_left
  · refine J_iload_n hC dJ6_stringSize_0f7a4_27 0 rfl rfl ?_
    refine J_iload_n hC dJ6_stringSize_0f7a4_28 3 rfl rfl ?_
    refine J_iadd (v := nI 4) hC dJ6_stringSize_0f7a4_29 rfl ?_
    exact J_iret hC hR dJ6_stringSize_0f7a4_30 rfl () (show nI 4 = nI (dgs v) from congrArg nI (by have h8 := Nat.lt_of_not_le (fun h => c3 ((strq 10000 v (by decide) hv).mpr h)); unfold dgs; have g0 := (strq 10 v (by decide) hv).mp c0; have g1 := (strq 100 v (by decide) hv).mp c1; have g2 := (strq 1000 v (by decide) hv).mp c2; (repeat' split) <;> omega)) rfl (by decide) (by decide)
  · exact absurd ((strq 10000 v (by decide) hv).mp c3) (by omega)


/-- the law's two cells for answers -/
abbrev LC (G : gT) (f : Nat → Int64) : va_E := .inl (gc G 4, 1, .inr (.inl f))
abbrev DC (G : gT) (f : Nat → UInt64) : va_E := .inl (gc G 5, 1, .inr (.inr (.inr (.inl f))))
def wP {S SY A : Type} (kd : SY → Int32) (post : A → S → Prop) (py : SY → Prop) : Int32 → (A × S) ⊕ SY → Prop := fun r u => match u with
  | .inl u => r = 0 ∧ post u.1 u.2
  | .inr u => py u ∧ r = kd u
def wW {S SY : Type} (G : gT) (ol : Nat) (f0 : Nat → Int64) (W1 : S → va_W) (WY : SY → va_W) : (Int32 × S) ⊕ SY → va_W := fun u => match u with
  | .inl u => (ol, LC G (vp_updL f0 0 u.1.toInt64)) :: W1 u.2
  | .inr u => (ol, LC G f0) :: WY u
def wWb {S SY : Type} (G : gT) (ol : Nat) (f0 : Nat → Int64) (W1 : S → va_W) (WY : SY → va_W) : (Int32 × S) ⊕ SY → va_W := fun u => match u with
  | .inl u => (ol, LC G (vp_updL f0 0 (if u.1 = 0 then 0 else 1))) :: W1 u.2
  | .inr u => (ol, LC G f0) :: WY u
def wWd {S SY : Type} (G : gT) (ol : Nat) (f0 : Nat → UInt64) (W1 : S → va_W) (WY : SY → va_W) : (UInt64 × S) ⊕ SY → va_W := fun u => match u with
  | .inl u => (ol, DC G (vf_upd f0 0 u.1)) :: W1 u.2
  | .inr u => (ol, DC G f0) :: WY u
section CONST
variable {S SX : Type} {l : Launch} {y : MethodName} {cc : ByteArray} {maxL : Nat} {rm : Room} {av : List Value} {G : gT} {W0 : va_W} {W1 : S → va_W} {W2 : SX → va_W} {px : SX → Prop} {EX : SX → String}
theorem consT_i {ret : Option FieldType} (c : Nat × va_E) {post : Int32 → S → Prop} (hM : TI l y cc maxL ret rm av G W0 post W1 px EX W2) : TI l y cc maxL ret rm av G (c :: W0) post (fun u => c :: W1 u) px EX (fun u => c :: W2 u) := frt_i (wr := [c]) hM (List.perm_append_singleton c W0).symm (fun u => List.perm_append_singleton c (W1 u)) (fun u => List.perm_append_singleton c (W2 u))
theorem consT_d (c : Nat × va_E) {post : UInt64 → S → Prop} (hM : TD l y cc maxL rm av G W0 post W1 px EX W2) : TD l y cc maxL rm av G (c :: W0) post (fun u => c :: W1 u) px EX (fun u => c :: W2 u) := frt_d (wr := [c]) hM (List.perm_append_singleton c W0).symm (fun u => List.perm_append_singleton c (W1 u)) (fun u => List.perm_append_singleton c (W2 u))
end CONST

set_option maxRecDepth 100000 in
set_option maxHeartbeats 4000000 in
theorem w_appendInput {S SY : Type} (l : Launch) (G : gT) (W : va_W) (o ol : Nat) (fs : List Value) (h0 : W[0]? = some (o, .inr (10, fs))) (z1 z2 z3 z4 z5 : Int32) (f0 : Nat → Int64) {post : Int32 → S → Prop} {W1 : S → va_W} {py : SY → Prop} {EY : SY → String} {WY : SY → va_W} (hM : TI l yX10_appendInput cX10_appendInput 6 (some .int) { frames := 6, cells := 1, slots := 6, locals := 90 } [.ref o, .int z1, .int z2, .int z3, .int z4, .int z5] G W post W1 py EY WY) (hE : ∀ u, py u → EY u = eISE) : WX l yL_appendInput cL_appendInput 8 [(0, 16, 19, 13)] { frames := 7, cells := 1, slots := 6, locals := 121 } [.ref o, .int z1, .int z2, .int z3, .int z4, .int z5, .ref ol] G ((ol, LC G f0) :: W) (wP (fun _ => 1) post py) (wW G ol f0 W1 WY) := by
  refine jw_i (own := RL) (by decide) rfl (Nat.le_of_ble_eq_true rfl) (fun x hl hC hR => ?_)
  subst hl
  refine J_aload hC dL_appendInput_0 6 rfl ?_
  refine J_iconst (v := nI 0) hC dL_appendInput_2 rfl ?_
  refine J_aload_n hC dL_appendInput_3 0 rfl rfl ?_
  refine J_iload_n hC dL_appendInput_4 1 rfl rfl ?_
  refine J_iload_n hC dL_appendInput_5 2 rfl rfl ?_
  refine J_iload_n hC dL_appendInput_6 3 rfl rfl ?_
  refine J_iload hC dL_appendInput_7 4 rfl ?_
  refine J_iload hC dL_appendInput_9 5 rfl ?_
  refine J_callTiC hC hR dL_appendInput_11 wl_L_7 yi_X10_appendInput (consT_i (ol, LC G f0) hM) rfl rfl 1 10 h0 rfl ⟨Nat.le_of_ble_eq_true rfl, Nat.le_of_ble_eq_true rfl⟩ (Nat.le_of_ble_eq_true rfl) (Nat.le_of_ble_eq_true rfl) (Nat.le_of_ble_eq_true rfl) (fun u9 q9 hp => ?_) (fun r9 u9 h9 => ?_)
  · have e9 := hE u9 hp
    refine ⟨19, by rw [e9]; exact catch1 hC hR rfl (by decide) (by decide) wk_L_13 (by decide), ?_⟩
    refine J_astore hC [(7, .ref q9), (0, .ref o), (1, .int z1), (2, .int z2), (3, .int z3), (4, .int z4), (5, .int z5), (6, .ref ol)] dL_appendInput_19 (by decide) rfl ?_
    refine J_iconst (v := 1) hC dL_appendInput_21 rfl ?_
    exact J_iretW hC hR dL_appendInput_22 (Sum.inr u9) ⟨hp, rfl⟩ rfl (Nat.le_of_ble_eq_true rfl) (Nat.le_of_ble_eq_true rfl)
  · refine J_i2l (v := r9.toInt64) hC dL_appendInput_14 rfl ?_
    refine J_last (i := 0) (ws' := (ol, LC G (vp_updL f0 0 r9.toInt64)) :: W1 u9) hC dL_appendInput_15 0 rfl (by decide) (by decide) rfl ?_
    refine J_goto (tgt := 23) hC dL_appendInput_16 (by decide) ?_
    refine J_iconst (v := 0) hC dL_appendInput_23 rfl ?_
    exact J_iretW hC hR dL_appendInput_24 (Sum.inl (r9, u9)) ⟨rfl, h9⟩ rfl (Nat.le_of_ble_eq_true rfl) (Nat.le_of_ble_eq_true rfl)

set_option maxRecDepth 100000 in
set_option maxHeartbeats 4000000 in
theorem w_truncateInput {S SY : Type} (l : Launch) (G : gT) (W : va_W) (o ol : Nat) (fs : List Value) (h0 : W[0]? = some (o, .inr (10, fs))) (z1 : Int32) (f0 : Nat → Int64) {post : Int32 → S → Prop} {W1 : S → va_W} {py : SY → Prop} {EY : SY → String} {WY : SY → va_W} (hM : TI l yX10_truncateInput cX10_truncateInput 2 (some .int) { frames := 7, cells := 1, slots := 6, locals := 104 } [.ref o, .int z1] G W post W1 py EY WY) (hE : ∀ u, py u → EY u = eIAE) : WX l yL_truncateInput cL_truncateInput 4 [(0, 9, 12, 19)] { frames := 8, cells := 1, slots := 6, locals := 131 } [.ref o, .int z1, .ref ol] G ((ol, LC G f0) :: W) (wP (fun _ => 1) post py) (wW G ol f0 W1 WY) := by
  refine jw_i (own := RL) (by decide) rfl (Nat.le_of_ble_eq_true rfl) (fun x hl hC hR => ?_)
  subst hl
  refine J_aload_n hC dL_truncateInput_0 2 rfl rfl ?_
  refine J_iconst (v := nI 0) hC dL_truncateInput_1 rfl ?_
  refine J_aload_n hC dL_truncateInput_2 0 rfl rfl ?_
  refine J_iload_n hC dL_truncateInput_3 1 rfl rfl ?_
  refine J_callTiC hC hR dL_truncateInput_4 wl_L_15 yi_X10_truncateInput (consT_i (ol, LC G f0) hM) rfl rfl 1 10 h0 rfl ⟨Nat.le_of_ble_eq_true rfl, Nat.le_of_ble_eq_true rfl⟩ (Nat.le_of_ble_eq_true rfl) (Nat.le_of_ble_eq_true rfl) (Nat.le_of_ble_eq_true rfl) (fun u9 q9 hp => ?_) (fun r9 u9 h9 => ?_)
  · have e9 := hE u9 hp
    refine ⟨12, by rw [e9]; exact catch1 hC hR rfl (by decide) (by decide) wk_L_19 (by decide), ?_⟩
    refine J_astore_n hC [(3, .ref q9), (0, .ref o), (1, .int z1), (2, .ref ol)] dL_truncateInput_12 rfl (by decide) rfl ?_
    refine J_iconst (v := 1) hC dL_truncateInput_13 rfl ?_
    exact J_iretW hC hR dL_truncateInput_14 (Sum.inr u9) ⟨hp, rfl⟩ rfl (Nat.le_of_ble_eq_true rfl) (Nat.le_of_ble_eq_true rfl)
  · refine J_i2l (v := r9.toInt64) hC dL_truncateInput_7 rfl ?_
    refine J_last (i := 0) (ws' := (ol, LC G (vp_updL f0 0 r9.toInt64)) :: W1 u9) hC dL_truncateInput_8 0 rfl (by decide) (by decide) rfl ?_
    refine J_goto (tgt := 15) hC dL_truncateInput_9 (by decide) ?_
    refine J_iconst (v := 0) hC dL_truncateInput_15 rfl ?_
    exact J_iretW hC hR dL_truncateInput_16 (Sum.inl (r9, u9)) ⟨rfl, h9⟩ rfl (Nat.le_of_ble_eq_true rfl) (Nat.le_of_ble_eq_true rfl)

set_option maxRecDepth 100000 in
set_option maxHeartbeats 4000000 in
theorem w_load {S SY : Type} (l : Launch) (G : gT) (W : va_W) (o ol : Nat) (fs : List Value) (h0 : W[0]? = some (o, .inr (10, fs))) (f0 : Nat → Int64) {post : Int32 → S → Prop} {W1 : S → va_W} {py : SY → Prop} {EY : SY → String} {WY : SY → va_W} (hM : TI l yX10_load cX10_load 3 (some .int) { frames := 9, cells := 3, slots := 15, locals := 200 } [.ref o] G W post W1 py EY WY) (hE : ∀ u, py u → EY u = eIAE) : WX l yL_load cL_load 3 [(0, 8, 11, 19)] { frames := 10, cells := 3, slots := 15, locals := 228 } [.ref o, .ref ol] G ((ol, LC G f0) :: W) (wP (fun _ => 1) post py) (wW G ol f0 W1 WY) := by
  refine jw_i (own := RL) (by decide) rfl (Nat.le_of_ble_eq_true rfl) (fun x hl hC hR => ?_)
  subst hl
  refine J_aload_n hC dL_load_0 1 rfl rfl ?_
  refine J_iconst (v := nI 0) hC dL_load_1 rfl ?_
  refine J_aload_n hC dL_load_2 0 rfl rfl ?_
  refine J_callTiC hC hR dL_load_3 wl_L_21 yi_X10_load (consT_i (ol, LC G f0) hM) rfl rfl 1 10 h0 rfl ⟨Nat.le_of_ble_eq_true rfl, Nat.le_of_ble_eq_true rfl⟩ (Nat.le_of_ble_eq_true rfl) (Nat.le_of_ble_eq_true rfl) (Nat.le_of_ble_eq_true rfl) (fun u9 q9 hp => ?_) (fun r9 u9 h9 => ?_)
  · have e9 := hE u9 hp
    refine ⟨11, by rw [e9]; exact catch1 hC hR rfl (by decide) (by decide) wk_L_19 (by decide), ?_⟩
    refine J_astore_n hC [(2, .ref q9), (0, .ref o), (1, .ref ol)] dL_load_11 rfl (by decide) rfl ?_
    refine J_iconst (v := 1) hC dL_load_12 rfl ?_
    exact J_iretW hC hR dL_load_13 (Sum.inr u9) ⟨hp, rfl⟩ rfl (Nat.le_of_ble_eq_true rfl) (Nat.le_of_ble_eq_true rfl)
  · refine J_i2l (v := r9.toInt64) hC dL_load_6 rfl ?_
    refine J_last (i := 0) (ws' := (ol, LC G (vp_updL f0 0 r9.toInt64)) :: W1 u9) hC dL_load_7 0 rfl (by decide) (by decide) rfl ?_
    refine J_goto (tgt := 14) hC dL_load_8 (by decide) ?_
    refine J_iconst (v := 0) hC dL_load_14 rfl ?_
    exact J_iretW hC hR dL_load_15 (Sum.inl (r9, u9)) ⟨rfl, h9⟩ rfl (Nat.le_of_ble_eq_true rfl) (Nat.le_of_ble_eq_true rfl)

set_option maxRecDepth 100000 in
set_option maxHeartbeats 4000000 in
theorem w_peopleOf {S SY : Type} (l : Launch) (G : gT) (W : va_W) (o ol : Nat) (fs : List Value) (h0 : W[0]? = some (o, .inr (10, fs))) (z1 : Int32) (f0 : Nat → Int64) {post : Int32 → S → Prop} {W1 : S → va_W} {py : SY → Prop} {EY : SY → String} {WY : SY → va_W} (hM : TI l yX10_peopleOf cX10_peopleOf 2 (some .int) { frames := 7, cells := 1, slots := 6, locals := 104 } [.ref o, .int z1] G W post W1 py EY WY) (hE : ∀ u, py u → EY u = eIOOB) : WX l yL_peopleOf cL_peopleOf 4 [(0, 9, 12, 28)] { frames := 8, cells := 1, slots := 6, locals := 131 } [.ref o, .int z1, .ref ol] G ((ol, LC G f0) :: W) (wP (fun _ => 1) post py) (wW G ol f0 W1 WY) := by
  refine jw_i (own := RL) (by decide) rfl (Nat.le_of_ble_eq_true rfl) (fun x hl hC hR => ?_)
  subst hl
  refine J_aload_n hC dL_peopleOf_0 2 rfl rfl ?_
  refine J_iconst (v := nI 0) hC dL_peopleOf_1 rfl ?_
  refine J_aload_n hC dL_peopleOf_2 0 rfl rfl ?_
  refine J_iload_n hC dL_peopleOf_3 1 rfl rfl ?_
  refine J_callTiC hC hR dL_peopleOf_4 wl_L_25 yi_X10_peopleOf (consT_i (ol, LC G f0) hM) rfl rfl 1 10 h0 rfl ⟨Nat.le_of_ble_eq_true rfl, Nat.le_of_ble_eq_true rfl⟩ (Nat.le_of_ble_eq_true rfl) (Nat.le_of_ble_eq_true rfl) (Nat.le_of_ble_eq_true rfl) (fun u9 q9 hp => ?_) (fun r9 u9 h9 => ?_)
  · have e9 := hE u9 hp
    refine ⟨12, by rw [e9]; exact catch1 hC hR rfl (by decide) (by decide) wk_L_28 (by decide), ?_⟩
    refine J_astore_n hC [(3, .ref q9), (0, .ref o), (1, .int z1), (2, .ref ol)] dL_peopleOf_12 rfl (by decide) rfl ?_
    refine J_iconst (v := 1) hC dL_peopleOf_13 rfl ?_
    exact J_iretW hC hR dL_peopleOf_14 (Sum.inr u9) ⟨hp, rfl⟩ rfl (Nat.le_of_ble_eq_true rfl) (Nat.le_of_ble_eq_true rfl)
  · refine J_i2l (v := r9.toInt64) hC dL_peopleOf_7 rfl ?_
    refine J_last (i := 0) (ws' := (ol, LC G (vp_updL f0 0 r9.toInt64)) :: W1 u9) hC dL_peopleOf_8 0 rfl (by decide) (by decide) rfl ?_
    refine J_goto (tgt := 15) hC dL_peopleOf_9 (by decide) ?_
    refine J_iconst (v := 0) hC dL_peopleOf_15 rfl ?_
    exact J_iretW hC hR dL_peopleOf_16 (Sum.inl (r9, u9)) ⟨rfl, h9⟩ rfl (Nat.le_of_ble_eq_true rfl) (Nat.le_of_ble_eq_true rfl)

set_option maxRecDepth 100000 in
set_option maxHeartbeats 4000000 in
theorem w_trustOf {S SY : Type} (l : Launch) (G : gT) (W : va_W) (o ol : Nat) (fs : List Value) (h0 : W[0]? = some (o, .inr (10, fs))) (z1 : Int32) (f0 : Nat → Int64) {post : Int32 → S → Prop} {W1 : S → va_W} {py : SY → Prop} {EY : SY → String} {WY : SY → va_W} (hM : TI l yX10_trustOf cX10_trustOf 2 (some .int) { frames := 7, cells := 1, slots := 6, locals := 104 } [.ref o, .int z1] G W post W1 py EY WY) (hE : ∀ u, py u → EY u = eIOOB) : WX l yL_trustOf cL_trustOf 4 [(0, 9, 12, 28)] { frames := 8, cells := 1, slots := 6, locals := 131 } [.ref o, .int z1, .ref ol] G ((ol, LC G f0) :: W) (wP (fun _ => 1) post py) (wW G ol f0 W1 WY) := by
  refine jw_i (own := RL) (by decide) rfl (Nat.le_of_ble_eq_true rfl) (fun x hl hC hR => ?_)
  subst hl
  refine J_aload_n hC dL_trustOf_0 2 rfl rfl ?_
  refine J_iconst (v := nI 0) hC dL_trustOf_1 rfl ?_
  refine J_aload_n hC dL_trustOf_2 0 rfl rfl ?_
  refine J_iload_n hC dL_trustOf_3 1 rfl rfl ?_
  refine J_callTiC hC hR dL_trustOf_4 wl_L_30 yi_X10_trustOf (consT_i (ol, LC G f0) hM) rfl rfl 1 10 h0 rfl ⟨Nat.le_of_ble_eq_true rfl, Nat.le_of_ble_eq_true rfl⟩ (Nat.le_of_ble_eq_true rfl) (Nat.le_of_ble_eq_true rfl) (Nat.le_of_ble_eq_true rfl) (fun u9 q9 hp => ?_) (fun r9 u9 h9 => ?_)
  · have e9 := hE u9 hp
    refine ⟨12, by rw [e9]; exact catch1 hC hR rfl (by decide) (by decide) wk_L_28 (by decide), ?_⟩
    refine J_astore_n hC [(3, .ref q9), (0, .ref o), (1, .int z1), (2, .ref ol)] dL_trustOf_12 rfl (by decide) rfl ?_
    refine J_iconst (v := 1) hC dL_trustOf_13 rfl ?_
    exact J_iretW hC hR dL_trustOf_14 (Sum.inr u9) ⟨hp, rfl⟩ rfl (Nat.le_of_ble_eq_true rfl) (Nat.le_of_ble_eq_true rfl)
  · refine J_i2l (v := r9.toInt64) hC dL_trustOf_7 rfl ?_
    refine J_last (i := 0) (ws' := (ol, LC G (vp_updL f0 0 r9.toInt64)) :: W1 u9) hC dL_trustOf_8 0 rfl (by decide) (by decide) rfl ?_
    refine J_goto (tgt := 15) hC dL_trustOf_9 (by decide) ?_
    refine J_iconst (v := 0) hC dL_trustOf_15 rfl ?_
    exact J_iretW hC hR dL_trustOf_16 (Sum.inl (r9, u9)) ⟨rfl, h9⟩ rfl (Nat.le_of_ble_eq_true rfl) (Nat.le_of_ble_eq_true rfl)

set_option maxRecDepth 100000 in
set_option maxHeartbeats 4000000 in
theorem w_forecastsFor {S SY : Type} (l : Launch) (G : gT) (W : va_W) (o ol : Nat) (fs : List Value) (h0 : W[0]? = some (o, .inr (10, fs))) (z1 : Int32) (f0 : Nat → Int64) {post : Int32 → S → Prop} {W1 : S → va_W} {py : SY → Prop} {EY : SY → String} {WY : SY → va_W} (hM : TI l yX10_forecastsFor cX10_forecastsFor 2 (some .int) { frames := 7, cells := 1, slots := 6, locals := 110 } [.ref o, .int z1] G W post W1 py EY WY) (hE : ∀ u, py u → EY u = eIOOB) : WX l yL_forecastsFor cL_forecastsFor 4 [(0, 9, 12, 28)] { frames := 8, cells := 1, slots := 6, locals := 137 } [.ref o, .int z1, .ref ol] G ((ol, LC G f0) :: W) (wP (fun _ => 1) post py) (wW G ol f0 W1 WY) := by
  refine jw_i (own := RL) (by decide) rfl (Nat.le_of_ble_eq_true rfl) (fun x hl hC hR => ?_)
  subst hl
  refine J_aload_n hC dL_forecastsFor_0 2 rfl rfl ?_
  refine J_iconst (v := nI 0) hC dL_forecastsFor_1 rfl ?_
  refine J_aload_n hC dL_forecastsFor_2 0 rfl rfl ?_
  refine J_iload_n hC dL_forecastsFor_3 1 rfl rfl ?_
  refine J_callTiC hC hR dL_forecastsFor_4 wl_L_33 yi_X10_forecastsFor (consT_i (ol, LC G f0) hM) rfl rfl 1 10 h0 rfl ⟨Nat.le_of_ble_eq_true rfl, Nat.le_of_ble_eq_true rfl⟩ (Nat.le_of_ble_eq_true rfl) (Nat.le_of_ble_eq_true rfl) (Nat.le_of_ble_eq_true rfl) (fun u9 q9 hp => ?_) (fun r9 u9 h9 => ?_)
  · have e9 := hE u9 hp
    refine ⟨12, by rw [e9]; exact catch1 hC hR rfl (by decide) (by decide) wk_L_28 (by decide), ?_⟩
    refine J_astore_n hC [(3, .ref q9), (0, .ref o), (1, .int z1), (2, .ref ol)] dL_forecastsFor_12 rfl (by decide) rfl ?_
    refine J_iconst (v := 1) hC dL_forecastsFor_13 rfl ?_
    exact J_iretW hC hR dL_forecastsFor_14 (Sum.inr u9) ⟨hp, rfl⟩ rfl (Nat.le_of_ble_eq_true rfl) (Nat.le_of_ble_eq_true rfl)
  · refine J_i2l (v := r9.toInt64) hC dL_forecastsFor_7 rfl ?_
    refine J_last (i := 0) (ws' := (ol, LC G (vp_updL f0 0 r9.toInt64)) :: W1 u9) hC dL_forecastsFor_8 0 rfl (by decide) (by decide) rfl ?_
    refine J_goto (tgt := 15) hC dL_forecastsFor_9 (by decide) ?_
    refine J_iconst (v := 0) hC dL_forecastsFor_15 rfl ?_
    exact J_iretW hC hR dL_forecastsFor_16 (Sum.inl (r9, u9)) ⟨rfl, h9⟩ rfl (Nat.le_of_ble_eq_true rfl) (Nat.le_of_ble_eq_true rfl)

set_option maxRecDepth 100000 in
set_option maxHeartbeats 4000000 in
theorem w_fairVillage {S SY : Type} (l : Launch) (G : gT) (W : va_W) (o ol : Nat) (fs : List Value) (h0 : W[0]? = some (o, .inr (10, fs))) (z1 : Int32) (f0 : Nat → Int64) {post : Int32 → S → Prop} {W1 : S → va_W} {py : SY → Prop} {EY : SY → String} {WY : SY → va_W} (hM : TI l yX10_fairVillage cX10_fairVillage 2 (some .int) { frames := 7, cells := 1, slots := 6, locals := 104 } [.ref o, .int z1] G W post W1 py EY WY) (hE : ∀ u, py u → EY u = eIOOB) : WX l yL_fairVillage cL_fairVillage 4 [(0, 9, 12, 28)] { frames := 8, cells := 1, slots := 6, locals := 131 } [.ref o, .int z1, .ref ol] G ((ol, LC G f0) :: W) (wP (fun _ => 1) post py) (wW G ol f0 W1 WY) := by
  refine jw_i (own := RL) (by decide) rfl (Nat.le_of_ble_eq_true rfl) (fun x hl hC hR => ?_)
  subst hl
  refine J_aload_n hC dL_fairVillage_0 2 rfl rfl ?_
  refine J_iconst (v := nI 0) hC dL_fairVillage_1 rfl ?_
  refine J_aload_n hC dL_fairVillage_2 0 rfl rfl ?_
  refine J_iload_n hC dL_fairVillage_3 1 rfl rfl ?_
  refine J_callTiC hC hR dL_fairVillage_4 wl_L_36 yi_X10_fairVillage (consT_i (ol, LC G f0) hM) rfl rfl 1 10 h0 rfl ⟨Nat.le_of_ble_eq_true rfl, Nat.le_of_ble_eq_true rfl⟩ (Nat.le_of_ble_eq_true rfl) (Nat.le_of_ble_eq_true rfl) (Nat.le_of_ble_eq_true rfl) (fun u9 q9 hp => ?_) (fun r9 u9 h9 => ?_)
  · have e9 := hE u9 hp
    refine ⟨12, by rw [e9]; exact catch1 hC hR rfl (by decide) (by decide) wk_L_28 (by decide), ?_⟩
    refine J_astore_n hC [(3, .ref q9), (0, .ref o), (1, .int z1), (2, .ref ol)] dL_fairVillage_12 rfl (by decide) rfl ?_
    refine J_iconst (v := 1) hC dL_fairVillage_13 rfl ?_
    exact J_iretW hC hR dL_fairVillage_14 (Sum.inr u9) ⟨hp, rfl⟩ rfl (Nat.le_of_ble_eq_true rfl) (Nat.le_of_ble_eq_true rfl)
  · refine J_i2l (v := r9.toInt64) hC dL_fairVillage_7 rfl ?_
    refine J_last (i := 0) (ws' := (ol, LC G (vp_updL f0 0 r9.toInt64)) :: W1 u9) hC dL_fairVillage_8 0 rfl (by decide) (by decide) rfl ?_
    refine J_goto (tgt := 15) hC dL_fairVillage_9 (by decide) ?_
    refine J_iconst (v := 0) hC dL_fairVillage_15 rfl ?_
    exact J_iretW hC hR dL_fairVillage_16 (Sum.inl (r9, u9)) ⟨rfl, h9⟩ rfl (Nat.le_of_ble_eq_true rfl) (Nat.le_of_ble_eq_true rfl)

set_option maxRecDepth 100000 in
set_option maxHeartbeats 4000000 in
theorem w_periodOf {S SY : Type} (l : Launch) (G : gT) (W : va_W) (o ol : Nat) (fs : List Value) (h0 : W[0]? = some (o, .inr (10, fs))) (z1 : Int32) (f0 : Nat → Int64) {post : Int32 → S → Prop} {W1 : S → va_W} {py : SY → Prop} {EY : SY → String} {WY : SY → va_W} (hM : TI l yX10_periodOf cX10_periodOf 2 (some .int) { frames := 7, cells := 1, slots := 6, locals := 104 } [.ref o, .int z1] G W post W1 py EY WY) (hE : ∀ u, py u → EY u = eIOOB) : WX l yL_periodOf cL_periodOf 4 [(0, 9, 12, 28)] { frames := 8, cells := 1, slots := 6, locals := 131 } [.ref o, .int z1, .ref ol] G ((ol, LC G f0) :: W) (wP (fun _ => 1) post py) (wW G ol f0 W1 WY) := by
  refine jw_i (own := RL) (by decide) rfl (Nat.le_of_ble_eq_true rfl) (fun x hl hC hR => ?_)
  subst hl
  refine J_aload_n hC dL_periodOf_0 2 rfl rfl ?_
  refine J_iconst (v := nI 0) hC dL_periodOf_1 rfl ?_
  refine J_aload_n hC dL_periodOf_2 0 rfl rfl ?_
  refine J_iload_n hC dL_periodOf_3 1 rfl rfl ?_
  refine J_callTiC hC hR dL_periodOf_4 wl_L_39 yi_X10_periodOf (consT_i (ol, LC G f0) hM) rfl rfl 1 10 h0 rfl ⟨Nat.le_of_ble_eq_true rfl, Nat.le_of_ble_eq_true rfl⟩ (Nat.le_of_ble_eq_true rfl) (Nat.le_of_ble_eq_true rfl) (Nat.le_of_ble_eq_true rfl) (fun u9 q9 hp => ?_) (fun r9 u9 h9 => ?_)
  · have e9 := hE u9 hp
    refine ⟨12, by rw [e9]; exact catch1 hC hR rfl (by decide) (by decide) wk_L_28 (by decide), ?_⟩
    refine J_astore_n hC [(3, .ref q9), (0, .ref o), (1, .int z1), (2, .ref ol)] dL_periodOf_12 rfl (by decide) rfl ?_
    refine J_iconst (v := 1) hC dL_periodOf_13 rfl ?_
    exact J_iretW hC hR dL_periodOf_14 (Sum.inr u9) ⟨hp, rfl⟩ rfl (Nat.le_of_ble_eq_true rfl) (Nat.le_of_ble_eq_true rfl)
  · refine J_i2l (v := r9.toInt64) hC dL_periodOf_7 rfl ?_
    refine J_last (i := 0) (ws' := (ol, LC G (vp_updL f0 0 r9.toInt64)) :: W1 u9) hC dL_periodOf_8 0 rfl (by decide) (by decide) rfl ?_
    refine J_goto (tgt := 15) hC dL_periodOf_9 (by decide) ?_
    refine J_iconst (v := 0) hC dL_periodOf_15 rfl ?_
    exact J_iretW hC hR dL_periodOf_16 (Sum.inl (r9, u9)) ⟨rfl, h9⟩ rfl (Nat.le_of_ble_eq_true rfl) (Nat.le_of_ble_eq_true rfl)

set_option maxRecDepth 100000 in
set_option maxHeartbeats 4000000 in
theorem w_stockOf {S SY : Type} (l : Launch) (G : gT) (W : va_W) (o ol : Nat) (fs : List Value) (h0 : W[0]? = some (o, .inr (10, fs))) (z1 : Int32) (f0 : Nat → Int64) {post : Int32 → S → Prop} {W1 : S → va_W} {py : SY → Prop} {EY : SY → String} {WY : SY → va_W} (hM : TI l yX10_stockOf cX10_stockOf 2 (some .int) { frames := 7, cells := 1, slots := 6, locals := 104 } [.ref o, .int z1] G W post W1 py EY WY) (hE : ∀ u, py u → EY u = eIOOB) : WX l yL_stockOf cL_stockOf 4 [(0, 9, 12, 28)] { frames := 8, cells := 1, slots := 6, locals := 131 } [.ref o, .int z1, .ref ol] G ((ol, LC G f0) :: W) (wP (fun _ => 1) post py) (wW G ol f0 W1 WY) := by
  refine jw_i (own := RL) (by decide) rfl (Nat.le_of_ble_eq_true rfl) (fun x hl hC hR => ?_)
  subst hl
  refine J_aload_n hC dL_stockOf_0 2 rfl rfl ?_
  refine J_iconst (v := nI 0) hC dL_stockOf_1 rfl ?_
  refine J_aload_n hC dL_stockOf_2 0 rfl rfl ?_
  refine J_iload_n hC dL_stockOf_3 1 rfl rfl ?_
  refine J_callTiC hC hR dL_stockOf_4 wl_L_42 yi_X10_stockOf (consT_i (ol, LC G f0) hM) rfl rfl 1 10 h0 rfl ⟨Nat.le_of_ble_eq_true rfl, Nat.le_of_ble_eq_true rfl⟩ (Nat.le_of_ble_eq_true rfl) (Nat.le_of_ble_eq_true rfl) (Nat.le_of_ble_eq_true rfl) (fun u9 q9 hp => ?_) (fun r9 u9 h9 => ?_)
  · have e9 := hE u9 hp
    refine ⟨12, by rw [e9]; exact catch1 hC hR rfl (by decide) (by decide) wk_L_28 (by decide), ?_⟩
    refine J_astore_n hC [(3, .ref q9), (0, .ref o), (1, .int z1), (2, .ref ol)] dL_stockOf_12 rfl (by decide) rfl ?_
    refine J_iconst (v := 1) hC dL_stockOf_13 rfl ?_
    exact J_iretW hC hR dL_stockOf_14 (Sum.inr u9) ⟨hp, rfl⟩ rfl (Nat.le_of_ble_eq_true rfl) (Nat.le_of_ble_eq_true rfl)
  · refine J_i2l (v := r9.toInt64) hC dL_stockOf_7 rfl ?_
    refine J_last (i := 0) (ws' := (ol, LC G (vp_updL f0 0 r9.toInt64)) :: W1 u9) hC dL_stockOf_8 0 rfl (by decide) (by decide) rfl ?_
    refine J_goto (tgt := 15) hC dL_stockOf_9 (by decide) ?_
    refine J_iconst (v := 0) hC dL_stockOf_15 rfl ?_
    exact J_iretW hC hR dL_stockOf_16 (Sum.inl (r9, u9)) ⟨rfl, h9⟩ rfl (Nat.le_of_ble_eq_true rfl) (Nat.le_of_ble_eq_true rfl)

set_option maxRecDepth 100000 in
set_option maxHeartbeats 4000000 in
theorem w_priceOf {S SY : Type} (l : Launch) (G : gT) (W : va_W) (o ol : Nat) (fs : List Value) (h0 : W[0]? = some (o, .inr (10, fs))) (z1 : Int32) (f0 : Nat → Int64) {post : Int32 → S → Prop} {W1 : S → va_W} {py : SY → Prop} {EY : SY → String} {WY : SY → va_W} (hM : TI l yX10_priceOf cX10_priceOf 2 (some .int) { frames := 7, cells := 1, slots := 6, locals := 104 } [.ref o, .int z1] G W post W1 py EY WY) (hE : ∀ u, py u → EY u = eIOOB) : WX l yL_priceOf cL_priceOf 4 [(0, 9, 12, 28)] { frames := 8, cells := 1, slots := 6, locals := 131 } [.ref o, .int z1, .ref ol] G ((ol, LC G f0) :: W) (wP (fun _ => 1) post py) (wW G ol f0 W1 WY) := by
  refine jw_i (own := RL) (by decide) rfl (Nat.le_of_ble_eq_true rfl) (fun x hl hC hR => ?_)
  subst hl
  refine J_aload_n hC dL_priceOf_0 2 rfl rfl ?_
  refine J_iconst (v := nI 0) hC dL_priceOf_1 rfl ?_
  refine J_aload_n hC dL_priceOf_2 0 rfl rfl ?_
  refine J_iload_n hC dL_priceOf_3 1 rfl rfl ?_
  refine J_callTiC hC hR dL_priceOf_4 wl_L_45 yi_X10_priceOf (consT_i (ol, LC G f0) hM) rfl rfl 1 10 h0 rfl ⟨Nat.le_of_ble_eq_true rfl, Nat.le_of_ble_eq_true rfl⟩ (Nat.le_of_ble_eq_true rfl) (Nat.le_of_ble_eq_true rfl) (Nat.le_of_ble_eq_true rfl) (fun u9 q9 hp => ?_) (fun r9 u9 h9 => ?_)
  · have e9 := hE u9 hp
    refine ⟨12, by rw [e9]; exact catch1 hC hR rfl (by decide) (by decide) wk_L_28 (by decide), ?_⟩
    refine J_astore_n hC [(3, .ref q9), (0, .ref o), (1, .int z1), (2, .ref ol)] dL_priceOf_12 rfl (by decide) rfl ?_
    refine J_iconst (v := 1) hC dL_priceOf_13 rfl ?_
    exact J_iretW hC hR dL_priceOf_14 (Sum.inr u9) ⟨hp, rfl⟩ rfl (Nat.le_of_ble_eq_true rfl) (Nat.le_of_ble_eq_true rfl)
  · refine J_i2l (v := r9.toInt64) hC dL_priceOf_7 rfl ?_
    refine J_last (i := 0) (ws' := (ol, LC G (vp_updL f0 0 r9.toInt64)) :: W1 u9) hC dL_priceOf_8 0 rfl (by decide) (by decide) rfl ?_
    refine J_goto (tgt := 15) hC dL_priceOf_9 (by decide) ?_
    refine J_iconst (v := 0) hC dL_priceOf_15 rfl ?_
    exact J_iretW hC hR dL_priceOf_16 (Sum.inl (r9, u9)) ⟨rfl, h9⟩ rfl (Nat.le_of_ble_eq_true rfl) (Nat.le_of_ble_eq_true rfl)

set_option maxRecDepth 100000 in
set_option maxHeartbeats 4000000 in
theorem w_daysUntilFair {S SY : Type} (l : Launch) (G : gT) (W : va_W) (o ol : Nat) (fs : List Value) (h0 : W[0]? = some (o, .inr (10, fs))) (z1 : Int32) (f0 : Nat → Int64) {post : Int32 → S → Prop} {W1 : S → va_W} {py : SY → Prop} {EY : SY → String} {WY : SY → va_W} (hM : TI l yX10_daysUntilFair cX10_daysUntilFair 2 (some .int) { frames := 7, cells := 1, slots := 6, locals := 110 } [.ref o, .int z1] G W post W1 py EY WY) (hE : ∀ u, py u → EY u = eIOOB) : WX l yL_daysUntilFair cL_daysUntilFair 4 [(0, 9, 12, 28)] { frames := 8, cells := 1, slots := 6, locals := 137 } [.ref o, .int z1, .ref ol] G ((ol, LC G f0) :: W) (wP (fun _ => 1) post py) (wW G ol f0 W1 WY) := by
  refine jw_i (own := RL) (by decide) rfl (Nat.le_of_ble_eq_true rfl) (fun x hl hC hR => ?_)
  subst hl
  refine J_aload_n hC dL_daysUntilFair_0 2 rfl rfl ?_
  refine J_iconst (v := nI 0) hC dL_daysUntilFair_1 rfl ?_
  refine J_aload_n hC dL_daysUntilFair_2 0 rfl rfl ?_
  refine J_iload_n hC dL_daysUntilFair_3 1 rfl rfl ?_
  refine J_callTiC hC hR dL_daysUntilFair_4 wl_L_48 yi_X10_daysUntilFair (consT_i (ol, LC G f0) hM) rfl rfl 1 10 h0 rfl ⟨Nat.le_of_ble_eq_true rfl, Nat.le_of_ble_eq_true rfl⟩ (Nat.le_of_ble_eq_true rfl) (Nat.le_of_ble_eq_true rfl) (Nat.le_of_ble_eq_true rfl) (fun u9 q9 hp => ?_) (fun r9 u9 h9 => ?_)
  · have e9 := hE u9 hp
    refine ⟨12, by rw [e9]; exact catch1 hC hR rfl (by decide) (by decide) wk_L_28 (by decide), ?_⟩
    refine J_astore_n hC [(3, .ref q9), (0, .ref o), (1, .int z1), (2, .ref ol)] dL_daysUntilFair_12 rfl (by decide) rfl ?_
    refine J_iconst (v := 1) hC dL_daysUntilFair_13 rfl ?_
    exact J_iretW hC hR dL_daysUntilFair_14 (Sum.inr u9) ⟨hp, rfl⟩ rfl (Nat.le_of_ble_eq_true rfl) (Nat.le_of_ble_eq_true rfl)
  · refine J_i2l (v := r9.toInt64) hC dL_daysUntilFair_7 rfl ?_
    refine J_last (i := 0) (ws' := (ol, LC G (vp_updL f0 0 r9.toInt64)) :: W1 u9) hC dL_daysUntilFair_8 0 rfl (by decide) (by decide) rfl ?_
    refine J_goto (tgt := 15) hC dL_daysUntilFair_9 (by decide) ?_
    refine J_iconst (v := 0) hC dL_daysUntilFair_15 rfl ?_
    exact J_iretW hC hR dL_daysUntilFair_16 (Sum.inl (r9, u9)) ⟨rfl, h9⟩ rfl (Nat.le_of_ble_eq_true rfl) (Nat.le_of_ble_eq_true rfl)

set_option maxRecDepth 100000 in
set_option maxHeartbeats 4000000 in
theorem w_oddsOf {S SY : Type} (l : Launch) (G : gT) (W : va_W) (o ol : Nat) (fs : List Value) (h0 : W[0]? = some (o, .inr (10, fs))) (z1 : Int32) (f0 : Nat → Int64) {post : Int32 → S → Prop} {W1 : S → va_W} {py : SY → Prop} {EY : SY → String} {WY : SY → va_W} (hM : TI l yX10_oddsOf cX10_oddsOf 2 (some .int) { frames := 7, cells := 1, slots := 6, locals := 104 } [.ref o, .int z1] G W post W1 py EY WY) (hE : ∀ u, py u → EY u = eIAE) : WX l yL_oddsOf cL_oddsOf 4 [(0, 9, 12, 19)] { frames := 8, cells := 1, slots := 6, locals := 131 } [.ref o, .int z1, .ref ol] G ((ol, LC G f0) :: W) (wP (fun _ => 1) post py) (wW G ol f0 W1 WY) := by
  refine jw_i (own := RL) (by decide) rfl (Nat.le_of_ble_eq_true rfl) (fun x hl hC hR => ?_)
  subst hl
  refine J_aload_n hC dL_oddsOf_0 2 rfl rfl ?_
  refine J_iconst (v := nI 0) hC dL_oddsOf_1 rfl ?_
  refine J_aload_n hC dL_oddsOf_2 0 rfl rfl ?_
  refine J_iload_n hC dL_oddsOf_3 1 rfl rfl ?_
  refine J_callTiC hC hR dL_oddsOf_4 wl_L_51 yi_X10_oddsOf (consT_i (ol, LC G f0) hM) rfl rfl 1 10 h0 rfl ⟨Nat.le_of_ble_eq_true rfl, Nat.le_of_ble_eq_true rfl⟩ (Nat.le_of_ble_eq_true rfl) (Nat.le_of_ble_eq_true rfl) (Nat.le_of_ble_eq_true rfl) (fun u9 q9 hp => ?_) (fun r9 u9 h9 => ?_)
  · have e9 := hE u9 hp
    refine ⟨12, by rw [e9]; exact catch1 hC hR rfl (by decide) (by decide) wk_L_19 (by decide), ?_⟩
    refine J_astore_n hC [(3, .ref q9), (0, .ref o), (1, .int z1), (2, .ref ol)] dL_oddsOf_12 rfl (by decide) rfl ?_
    refine J_iconst (v := 1) hC dL_oddsOf_13 rfl ?_
    exact J_iretW hC hR dL_oddsOf_14 (Sum.inr u9) ⟨hp, rfl⟩ rfl (Nat.le_of_ble_eq_true rfl) (Nat.le_of_ble_eq_true rfl)
  · refine J_i2l (v := r9.toInt64) hC dL_oddsOf_7 rfl ?_
    refine J_last (i := 0) (ws' := (ol, LC G (vp_updL f0 0 r9.toInt64)) :: W1 u9) hC dL_oddsOf_8 0 rfl (by decide) (by decide) rfl ?_
    refine J_goto (tgt := 15) hC dL_oddsOf_9 (by decide) ?_
    refine J_iconst (v := 0) hC dL_oddsOf_15 rfl ?_
    exact J_iretW hC hR dL_oddsOf_16 (Sum.inl (r9, u9)) ⟨rfl, h9⟩ rfl (Nat.le_of_ble_eq_true rfl) (Nat.le_of_ble_eq_true rfl)

set_option maxRecDepth 100000 in
set_option maxHeartbeats 4000000 in
theorem w_chanceOf {S SY : Type} (l : Launch) (G : gT) (W : va_W) (o ol : Nat) (fs : List Value) (h0 : W[0]? = some (o, .inr (10, fs))) (z1 : Int32) (f0 : Nat → UInt64) {post : UInt64 → S → Prop} {W1 : S → va_W} {py : SY → Prop} {EY : SY → String} {WY : SY → va_W} (hM : TD l yX10_chanceOf cX10_chanceOf 3 { frames := 7, cells := 1, slots := 6, locals := 104 } [.ref o, .int z1] G W post W1 py EY WY) (hE : ∀ u, py u → EY u = eIAE) : WX l yL_chanceOf cL_chanceOf 4 [(0, 8, 11, 19)] { frames := 8, cells := 1, slots := 6, locals := 132 } [.ref o, .int z1, .ref ol] G ((ol, DC G f0) :: W) (wP (fun _ => 1) post py) (wWd G ol f0 W1 WY) := by
  refine jw_i (own := RL) (by decide) rfl (Nat.le_of_ble_eq_true rfl) (fun x hl hC hR => ?_)
  subst hl
  refine J_aload_n hC dL_chanceOf_0 2 rfl rfl ?_
  refine J_iconst (v := nI 0) hC dL_chanceOf_1 rfl ?_
  refine J_aload_n hC dL_chanceOf_2 0 rfl rfl ?_
  refine J_iload_n hC dL_chanceOf_3 1 rfl rfl ?_
  refine J_callTdC hC hR dL_chanceOf_4 wl_L_54 yi_X10_chanceOf (consT_d (ol, DC G f0) hM) rfl rfl 1 10 h0 rfl ⟨Nat.le_of_ble_eq_true rfl, Nat.le_of_ble_eq_true rfl⟩ (Nat.le_of_ble_eq_true rfl) (Nat.le_of_ble_eq_true rfl) (Nat.le_of_ble_eq_true rfl) (fun u9 q9 hp => ?_) (fun r9 u9 h9 => ?_)
  · have e9 := hE u9 hp
    refine ⟨11, by rw [e9]; exact catch1 hC hR rfl (by decide) (by decide) wk_L_19 (by decide), ?_⟩
    refine J_astore_n hC [(3, .ref q9), (0, .ref o), (1, .int z1), (2, .ref ol)] dL_chanceOf_11 rfl (by decide) rfl ?_
    refine J_iconst (v := 1) hC dL_chanceOf_12 rfl ?_
    exact J_iretW hC hR dL_chanceOf_13 (Sum.inr u9) ⟨hp, rfl⟩ rfl (Nat.le_of_ble_eq_true rfl) (Nat.le_of_ble_eq_true rfl)
  · refine J_dast (i := 0) (ws' := (ol, DC G (vf_upd f0 0 r9)) :: W1 u9) hC dL_chanceOf_7 0 rfl (by decide) (by decide) rfl ?_
    refine J_goto (tgt := 14) hC dL_chanceOf_8 (by decide) ?_
    refine J_iconst (v := 0) hC dL_chanceOf_14 rfl ?_
    exact J_iretW hC hR dL_chanceOf_15 (Sum.inl (r9, u9)) ⟨rfl, h9⟩ rfl (Nat.le_of_ble_eq_true rfl) (Nat.le_of_ble_eq_true rfl)

set_option maxRecDepth 100000 in
set_option maxHeartbeats 4000000 in
theorem w_drawnThisYear {S SY : Type} (l : Launch) (G : gT) (W : va_W) (o ol : Nat) (fs : List Value) (h0 : W[0]? = some (o, .inr (10, fs))) (z1 : Int32) (f0 : Nat → Int64) {post : Int32 → S → Prop} {W1 : S → va_W} {py : SY → Prop} {EY : SY → String} {WY : SY → va_W} (hM : TI l yX10_drawnThisYear cX10_drawnThisYear 2 (some .int) { frames := 7, cells := 1, slots := 6, locals := 104 } [.ref o, .int z1] G W post W1 py EY WY) (hE : ∀ u, py u → EY u = eIAE) : WX l yL_drawnThisYear cL_drawnThisYear 4 [(0, 9, 12, 19)] { frames := 8, cells := 1, slots := 6, locals := 131 } [.ref o, .int z1, .ref ol] G ((ol, LC G f0) :: W) (wP (fun _ => 1) post py) (wW G ol f0 W1 WY) := by
  refine jw_i (own := RL) (by decide) rfl (Nat.le_of_ble_eq_true rfl) (fun x hl hC hR => ?_)
  subst hl
  refine J_aload_n hC dL_drawnThisYear_0 2 rfl rfl ?_
  refine J_iconst (v := nI 0) hC dL_drawnThisYear_1 rfl ?_
  refine J_aload_n hC dL_drawnThisYear_2 0 rfl rfl ?_
  refine J_iload_n hC dL_drawnThisYear_3 1 rfl rfl ?_
  refine J_callTiC hC hR dL_drawnThisYear_4 wl_L_58 yi_X10_drawnThisYear (consT_i (ol, LC G f0) hM) rfl rfl 1 10 h0 rfl ⟨Nat.le_of_ble_eq_true rfl, Nat.le_of_ble_eq_true rfl⟩ (Nat.le_of_ble_eq_true rfl) (Nat.le_of_ble_eq_true rfl) (Nat.le_of_ble_eq_true rfl) (fun u9 q9 hp => ?_) (fun r9 u9 h9 => ?_)
  · have e9 := hE u9 hp
    refine ⟨12, by rw [e9]; exact catch1 hC hR rfl (by decide) (by decide) wk_L_19 (by decide), ?_⟩
    refine J_astore_n hC [(3, .ref q9), (0, .ref o), (1, .int z1), (2, .ref ol)] dL_drawnThisYear_12 rfl (by decide) rfl ?_
    refine J_iconst (v := 1) hC dL_drawnThisYear_13 rfl ?_
    exact J_iretW hC hR dL_drawnThisYear_14 (Sum.inr u9) ⟨hp, rfl⟩ rfl (Nat.le_of_ble_eq_true rfl) (Nat.le_of_ble_eq_true rfl)
  · refine J_i2l (v := r9.toInt64) hC dL_drawnThisYear_7 rfl ?_
    refine J_last (i := 0) (ws' := (ol, LC G (vp_updL f0 0 r9.toInt64)) :: W1 u9) hC dL_drawnThisYear_8 0 rfl (by decide) (by decide) rfl ?_
    refine J_goto (tgt := 15) hC dL_drawnThisYear_9 (by decide) ?_
    refine J_iconst (v := 0) hC dL_drawnThisYear_15 rfl ?_
    exact J_iretW hC hR dL_drawnThisYear_16 (Sum.inl (r9, u9)) ⟨rfl, h9⟩ rfl (Nat.le_of_ble_eq_true rfl) (Nat.le_of_ble_eq_true rfl)

set_option maxRecDepth 100000 in
set_option maxHeartbeats 4000000 in
theorem w_hasForecast {S SY : Type} (l : Launch) (G : gT) (W : va_W) (o ol : Nat) (fs : List Value) (h0 : W[0]? = some (o, .inr (10, fs))) (z1 z2 : Int32) (f0 : Nat → Int64) {post : Int32 → S → Prop} {W1 : S → va_W} {py : SY → Prop} {EY : SY → String} {WY : SY → va_W} (hM : TI l yX10_hasForecast cX10_hasForecast 3 (some .boolean) { frames := 7, cells := 1, slots := 6, locals := 110 } [.ref o, .int z1, .int z2] G W post W1 py EY WY) (hE : ∀ u, py u → EY u = eIOOB) : WX l yL_hasForecast cL_hasForecast 5 [(0, 17, 20, 28)] { frames := 8, cells := 1, slots := 6, locals := 138 } [.ref o, .int z1, .int z2, .ref ol] G ((ol, LC G f0) :: W) (wP (fun _ => 1) post py) (wWb G ol f0 W1 WY) := by
  refine jw_i (own := RL) (by decide) rfl (Nat.le_of_ble_eq_true rfl) (fun x hl hC hR => ?_)
  subst hl
  refine J_aload_n hC dL_hasForecast_0 3 rfl rfl ?_
  refine J_iconst (v := nI 0) hC dL_hasForecast_1 rfl ?_
  refine J_aload_n hC dL_hasForecast_2 0 rfl rfl ?_
  refine J_iload_n hC dL_hasForecast_3 1 rfl rfl ?_
  refine J_iload_n hC dL_hasForecast_4 2 rfl rfl ?_
  refine J_callTiC hC hR dL_hasForecast_5 wl_L_61 yi_X10_hasForecast (consT_i (ol, LC G f0) hM) rfl rfl 1 10 h0 rfl ⟨Nat.le_of_ble_eq_true rfl, Nat.le_of_ble_eq_true rfl⟩ (Nat.le_of_ble_eq_true rfl) (Nat.le_of_ble_eq_true rfl) (Nat.le_of_ble_eq_true rfl) (fun u9 q9 hp => ?_) (fun r9 u9 h9 => ?_)
  · have e9 := hE u9 hp
    refine ⟨20, by rw [e9]; exact catch1 hC hR rfl (by decide) (by decide) wk_L_28 (by decide), ?_⟩
    refine J_astore hC [(4, .ref q9), (0, .ref o), (1, .int z1), (2, .int z2), (3, .ref ol)] dL_hasForecast_20 (by decide) rfl ?_
    refine J_iconst (v := 1) hC dL_hasForecast_22 rfl ?_
    exact J_iretW hC hR dL_hasForecast_23 (Sum.inr u9) ⟨hp, rfl⟩ rfl (Nat.le_of_ble_eq_true rfl) (Nat.le_of_ble_eq_true rfl)
  · refine J_if_eq (tgt := 15) hC dL_hasForecast_8 (by decide) (fun c => ?_) (fun c => ?_)
    · refine J_lconst (v := 0) hC dL_hasForecast_15 rfl ?_
      refine J_last (i := 0) (ws' := (ol, LC G (vp_updL f0 0 0)) :: W1 u9) hC dL_hasForecast_16 0 rfl (by decide) (by decide) rfl ?_
      refine J_goto (tgt := 24) hC dL_hasForecast_17 (by decide) ?_
      refine J_iconst (v := 0) hC dL_hasForecast_24 rfl ?_
      exact J_iretW hC hR dL_hasForecast_25 (Sum.inl (r9, u9)) ⟨rfl, h9⟩ (by rw [wWb]; dsimp only; rw [if_pos c]) (Nat.le_of_ble_eq_true rfl) (Nat.le_of_ble_eq_true rfl)
    · refine J_lconst (v := 1) hC dL_hasForecast_11 rfl ?_
      refine J_goto (tgt := 16) hC dL_hasForecast_12 (by decide) ?_
      refine J_last (i := 0) (ws' := (ol, LC G (vp_updL f0 0 1)) :: W1 u9) hC dL_hasForecast_16 0 rfl (by decide) (by decide) rfl ?_
      refine J_goto (tgt := 24) hC dL_hasForecast_17 (by decide) ?_
      refine J_iconst (v := 0) hC dL_hasForecast_24 rfl ?_
      exact J_iretW hC hR dL_hasForecast_25 (Sum.inl (r9, u9)) ⟨rfl, h9⟩ (by rw [wWb]; dsimp only; rw [if_neg c]) (Nat.le_of_ble_eq_true rfl) (Nat.le_of_ble_eq_true rfl)

set_option maxRecDepth 100000 in
set_option maxHeartbeats 4000000 in
theorem w_weatherOf {S SY : Type} (l : Launch) (G : gT) (W : va_W) (o ol : Nat) (fs : List Value) (h0 : W[0]? = some (o, .inr (10, fs))) (z1 z2 : Int32) (f0 : Nat → Int64) {post : Int32 → S → Prop} {W1 : S → va_W} {py : SY → Prop} {EY : SY → String} {WY : SY → va_W} (hM : TI l yX10_weatherOf cX10_weatherOf 3 (some .int) { frames := 8, cells := 2, slots := 12, locals := 134 } [.ref o, .int z1, .int z2] G W post W1 py EY WY) (hE : ∀ u, py u → EY u = eIOOB ∨ EY u = eNSE) : WX l yL_weatherOf cL_weatherOf 5 [(0, 10, 13, 28), (0, 10, 17, 69)] { frames := 9, cells := 2, slots := 12, locals := 162 } [.ref o, .int z1, .int z2, .ref ol] G ((ol, LC G f0) :: W) (wP (fun u => if EY u = eIOOB then 1 else 2) post py) (wW G ol f0 W1 WY) := by
  refine jw_i (own := RL) (by decide) rfl (Nat.le_of_ble_eq_true rfl) (fun x hl hC hR => ?_)
  subst hl
  refine J_aload_n hC dL_weatherOf_0 3 rfl rfl ?_
  refine J_iconst (v := nI 0) hC dL_weatherOf_1 rfl ?_
  refine J_aload_n hC dL_weatherOf_2 0 rfl rfl ?_
  refine J_iload_n hC dL_weatherOf_3 1 rfl rfl ?_
  refine J_iload_n hC dL_weatherOf_4 2 rfl rfl ?_
  refine J_callTiC hC hR dL_weatherOf_5 wl_L_65 yi_X10_weatherOf (consT_i (ol, LC G f0) hM) rfl rfl 1 10 h0 rfl ⟨Nat.le_of_ble_eq_true rfl, Nat.le_of_ble_eq_true rfl⟩ (Nat.le_of_ble_eq_true rfl) (Nat.le_of_ble_eq_true rfl) (Nat.le_of_ble_eq_true rfl) (fun u9 q9 hp => ?_) (fun r9 u9 h9 => ?_)
  · rcases hE u9 hp with e9 | e9
    · refine ⟨13, by rw [e9]; exact catch1 hC hR rfl (by decide) (by decide) wk_L_28 (by decide), ?_⟩
      refine J_astore hC [(4, .ref q9), (0, .ref o), (1, .int z1), (2, .int z2), (3, .ref ol)] dL_weatherOf_13 (by decide) rfl ?_
      refine J_iconst (v := 1) hC dL_weatherOf_15 rfl ?_
      exact J_iretW hC hR dL_weatherOf_16 (Sum.inr u9) ⟨hp, (if_pos e9).symm⟩ rfl (Nat.le_of_ble_eq_true rfl) (Nat.le_of_ble_eq_true rfl)
    · refine ⟨17, by rw [e9]; exact catch2 hC hR rfl (by decide) wk_L_28 (by decide) (by decide) (by decide) wk_L_69 (by decide), ?_⟩
      refine J_astore hC [(4, .ref q9), (0, .ref o), (1, .int z1), (2, .int z2), (3, .ref ol)] dL_weatherOf_17 (by decide) rfl ?_
      refine J_iconst (v := 2) hC dL_weatherOf_19 rfl ?_
      exact J_iretW hC hR dL_weatherOf_20 (Sum.inr u9) ⟨hp, (if_neg (by rw [e9]; decide)).symm⟩ rfl (Nat.le_of_ble_eq_true rfl) (Nat.le_of_ble_eq_true rfl)
  · refine J_i2l (v := r9.toInt64) hC dL_weatherOf_8 rfl ?_
    refine J_last (i := 0) (ws' := (ol, LC G (vp_updL f0 0 r9.toInt64)) :: W1 u9) hC dL_weatherOf_9 0 rfl (by decide) (by decide) rfl ?_
    refine J_goto (tgt := 21) hC dL_weatherOf_10 (by decide) ?_
    refine J_iconst (v := 0) hC dL_weatherOf_21 rfl ?_
    exact J_iretW hC hR dL_weatherOf_22 (Sum.inl (r9, u9)) ⟨rfl, h9⟩ rfl (Nat.le_of_ble_eq_true rfl) (Nat.le_of_ble_eq_true rfl)

set_option maxRecDepth 100000 in
set_option maxHeartbeats 4000000 in
theorem w_soldOf {S SY : Type} (l : Launch) (G : gT) (W : va_W) (o ol : Nat) (fs : List Value) (h0 : W[0]? = some (o, .inr (10, fs))) (z1 z2 : Int32) (f0 : Nat → Int64) {post : Int32 → S → Prop} {W1 : S → va_W} {py : SY → Prop} {EY : SY → String} {WY : SY → va_W} (hM : TI l yX10_soldOf cX10_soldOf 3 (some .int) { frames := 8, cells := 2, slots := 12, locals := 134 } [.ref o, .int z1, .int z2] G W post W1 py EY WY) (hE : ∀ u, py u → EY u = eIOOB ∨ EY u = eNSE) : WX l yL_soldOf cL_soldOf 5 [(0, 10, 13, 28), (0, 10, 17, 69)] { frames := 9, cells := 2, slots := 12, locals := 162 } [.ref o, .int z1, .int z2, .ref ol] G ((ol, LC G f0) :: W) (wP (fun u => if EY u = eIOOB then 1 else 2) post py) (wW G ol f0 W1 WY) := by
  refine jw_i (own := RL) (by decide) rfl (Nat.le_of_ble_eq_true rfl) (fun x hl hC hR => ?_)
  subst hl
  refine J_aload_n hC dL_soldOf_0 3 rfl rfl ?_
  refine J_iconst (v := nI 0) hC dL_soldOf_1 rfl ?_
  refine J_aload_n hC dL_soldOf_2 0 rfl rfl ?_
  refine J_iload_n hC dL_soldOf_3 1 rfl rfl ?_
  refine J_iload_n hC dL_soldOf_4 2 rfl rfl ?_
  refine J_callTiC hC hR dL_soldOf_5 wl_L_71 yi_X10_soldOf (consT_i (ol, LC G f0) hM) rfl rfl 1 10 h0 rfl ⟨Nat.le_of_ble_eq_true rfl, Nat.le_of_ble_eq_true rfl⟩ (Nat.le_of_ble_eq_true rfl) (Nat.le_of_ble_eq_true rfl) (Nat.le_of_ble_eq_true rfl) (fun u9 q9 hp => ?_) (fun r9 u9 h9 => ?_)
  · rcases hE u9 hp with e9 | e9
    · refine ⟨13, by rw [e9]; exact catch1 hC hR rfl (by decide) (by decide) wk_L_28 (by decide), ?_⟩
      refine J_astore hC [(4, .ref q9), (0, .ref o), (1, .int z1), (2, .int z2), (3, .ref ol)] dL_soldOf_13 (by decide) rfl ?_
      refine J_iconst (v := 1) hC dL_soldOf_15 rfl ?_
      exact J_iretW hC hR dL_soldOf_16 (Sum.inr u9) ⟨hp, (if_pos e9).symm⟩ rfl (Nat.le_of_ble_eq_true rfl) (Nat.le_of_ble_eq_true rfl)
    · refine ⟨17, by rw [e9]; exact catch2 hC hR rfl (by decide) wk_L_28 (by decide) (by decide) (by decide) wk_L_69 (by decide), ?_⟩
      refine J_astore hC [(4, .ref q9), (0, .ref o), (1, .int z1), (2, .int z2), (3, .ref ol)] dL_soldOf_17 (by decide) rfl ?_
      refine J_iconst (v := 2) hC dL_soldOf_19 rfl ?_
      exact J_iretW hC hR dL_soldOf_20 (Sum.inr u9) ⟨hp, (if_neg (by rw [e9]; decide)).symm⟩ rfl (Nat.le_of_ble_eq_true rfl) (Nat.le_of_ble_eq_true rfl)
  · refine J_i2l (v := r9.toInt64) hC dL_soldOf_8 rfl ?_
    refine J_last (i := 0) (ws' := (ol, LC G (vp_updL f0 0 r9.toInt64)) :: W1 u9) hC dL_soldOf_9 0 rfl (by decide) (by decide) rfl ?_
    refine J_goto (tgt := 21) hC dL_soldOf_10 (by decide) ?_
    refine J_iconst (v := 0) hC dL_soldOf_21 rfl ?_
    exact J_iretW hC hR dL_soldOf_22 (Sum.inl (r9, u9)) ⟨rfl, h9⟩ rfl (Nat.le_of_ble_eq_true rfl) (Nat.le_of_ble_eq_true rfl)

set_option maxRecDepth 100000 in
set_option maxHeartbeats 4000000 in
theorem w_paidOf {S SY : Type} (l : Launch) (G : gT) (W : va_W) (o ol : Nat) (fs : List Value) (h0 : W[0]? = some (o, .inr (10, fs))) (z1 z2 : Int32) (f0 : Nat → Int64) {post : Int32 → S → Prop} {W1 : S → va_W} {py : SY → Prop} {EY : SY → String} {WY : SY → va_W} (hM : TI l yX10_paidOf cX10_paidOf 3 (some .int) { frames := 8, cells := 2, slots := 12, locals := 134 } [.ref o, .int z1, .int z2] G W post W1 py EY WY) (hE : ∀ u, py u → EY u = eIOOB ∨ EY u = eNSE) : WX l yL_paidOf cL_paidOf 5 [(0, 10, 13, 28), (0, 10, 17, 69)] { frames := 9, cells := 2, slots := 12, locals := 162 } [.ref o, .int z1, .int z2, .ref ol] G ((ol, LC G f0) :: W) (wP (fun u => if EY u = eIOOB then 1 else 2) post py) (wW G ol f0 W1 WY) := by
  refine jw_i (own := RL) (by decide) rfl (Nat.le_of_ble_eq_true rfl) (fun x hl hC hR => ?_)
  subst hl
  refine J_aload_n hC dL_paidOf_0 3 rfl rfl ?_
  refine J_iconst (v := nI 0) hC dL_paidOf_1 rfl ?_
  refine J_aload_n hC dL_paidOf_2 0 rfl rfl ?_
  refine J_iload_n hC dL_paidOf_3 1 rfl rfl ?_
  refine J_iload_n hC dL_paidOf_4 2 rfl rfl ?_
  refine J_callTiC hC hR dL_paidOf_5 wl_L_74 yi_X10_paidOf (consT_i (ol, LC G f0) hM) rfl rfl 1 10 h0 rfl ⟨Nat.le_of_ble_eq_true rfl, Nat.le_of_ble_eq_true rfl⟩ (Nat.le_of_ble_eq_true rfl) (Nat.le_of_ble_eq_true rfl) (Nat.le_of_ble_eq_true rfl) (fun u9 q9 hp => ?_) (fun r9 u9 h9 => ?_)
  · rcases hE u9 hp with e9 | e9
    · refine ⟨13, by rw [e9]; exact catch1 hC hR rfl (by decide) (by decide) wk_L_28 (by decide), ?_⟩
      refine J_astore hC [(4, .ref q9), (0, .ref o), (1, .int z1), (2, .int z2), (3, .ref ol)] dL_paidOf_13 (by decide) rfl ?_
      refine J_iconst (v := 1) hC dL_paidOf_15 rfl ?_
      exact J_iretW hC hR dL_paidOf_16 (Sum.inr u9) ⟨hp, (if_pos e9).symm⟩ rfl (Nat.le_of_ble_eq_true rfl) (Nat.le_of_ble_eq_true rfl)
    · refine ⟨17, by rw [e9]; exact catch2 hC hR rfl (by decide) wk_L_28 (by decide) (by decide) (by decide) wk_L_69 (by decide), ?_⟩
      refine J_astore hC [(4, .ref q9), (0, .ref o), (1, .int z1), (2, .int z2), (3, .ref ol)] dL_paidOf_17 (by decide) rfl ?_
      refine J_iconst (v := 2) hC dL_paidOf_19 rfl ?_
      exact J_iretW hC hR dL_paidOf_20 (Sum.inr u9) ⟨hp, (if_neg (by rw [e9]; decide)).symm⟩ rfl (Nat.le_of_ble_eq_true rfl) (Nat.le_of_ble_eq_true rfl)
  · refine J_i2l (v := r9.toInt64) hC dL_paidOf_8 rfl ?_
    refine J_last (i := 0) (ws' := (ol, LC G (vp_updL f0 0 r9.toInt64)) :: W1 u9) hC dL_paidOf_9 0 rfl (by decide) (by decide) rfl ?_
    refine J_goto (tgt := 21) hC dL_paidOf_10 (by decide) ?_
    refine J_iconst (v := 0) hC dL_paidOf_21 rfl ?_
    exact J_iretW hC hR dL_paidOf_22 (Sum.inl (r9, u9)) ⟨rfl, h9⟩ rfl (Nat.le_of_ble_eq_true rfl) (Nat.le_of_ble_eq_true rfl)

set_option maxRecDepth 100000 in
set_option maxHeartbeats 4000000 in
theorem w_pageOf {S SY : Type} (l : Launch) (G : gT) (W : va_W) (o ol : Nat) (fs : List Value) (h0 : W[0]? = some (o, .inr (10, fs))) (z1 z2 : Int32) (f0 : Nat → Int64) {post : Int32 → S → Prop} {W1 : S → va_W} {py : SY → Prop} {EY : SY → String} {WY : SY → va_W} (hM : TI l yX10_pageOf cX10_pageOf 3 (some .int) { frames := 8, cells := 2, slots := 12, locals := 134 } [.ref o, .int z1, .int z2] G W post W1 py EY WY) (hE : ∀ u, py u → EY u = eIOOB ∨ EY u = eNSE) : WX l yL_pageOf cL_pageOf 5 [(0, 10, 13, 28), (0, 10, 17, 69)] { frames := 9, cells := 2, slots := 12, locals := 162 } [.ref o, .int z1, .int z2, .ref ol] G ((ol, LC G f0) :: W) (wP (fun u => if EY u = eIOOB then 1 else 2) post py) (wW G ol f0 W1 WY) := by
  refine jw_i (own := RL) (by decide) rfl (Nat.le_of_ble_eq_true rfl) (fun x hl hC hR => ?_)
  subst hl
  refine J_aload_n hC dL_pageOf_0 3 rfl rfl ?_
  refine J_iconst (v := nI 0) hC dL_pageOf_1 rfl ?_
  refine J_aload_n hC dL_pageOf_2 0 rfl rfl ?_
  refine J_iload_n hC dL_pageOf_3 1 rfl rfl ?_
  refine J_iload_n hC dL_pageOf_4 2 rfl rfl ?_
  refine J_callTiC hC hR dL_pageOf_5 wl_L_77 yi_X10_pageOf (consT_i (ol, LC G f0) hM) rfl rfl 1 10 h0 rfl ⟨Nat.le_of_ble_eq_true rfl, Nat.le_of_ble_eq_true rfl⟩ (Nat.le_of_ble_eq_true rfl) (Nat.le_of_ble_eq_true rfl) (Nat.le_of_ble_eq_true rfl) (fun u9 q9 hp => ?_) (fun r9 u9 h9 => ?_)
  · rcases hE u9 hp with e9 | e9
    · refine ⟨13, by rw [e9]; exact catch1 hC hR rfl (by decide) (by decide) wk_L_28 (by decide), ?_⟩
      refine J_astore hC [(4, .ref q9), (0, .ref o), (1, .int z1), (2, .int z2), (3, .ref ol)] dL_pageOf_13 (by decide) rfl ?_
      refine J_iconst (v := 1) hC dL_pageOf_15 rfl ?_
      exact J_iretW hC hR dL_pageOf_16 (Sum.inr u9) ⟨hp, (if_pos e9).symm⟩ rfl (Nat.le_of_ble_eq_true rfl) (Nat.le_of_ble_eq_true rfl)
    · refine ⟨17, by rw [e9]; exact catch2 hC hR rfl (by decide) wk_L_28 (by decide) (by decide) (by decide) wk_L_69 (by decide), ?_⟩
      refine J_astore hC [(4, .ref q9), (0, .ref o), (1, .int z1), (2, .int z2), (3, .ref ol)] dL_pageOf_17 (by decide) rfl ?_
      refine J_iconst (v := 2) hC dL_pageOf_19 rfl ?_
      exact J_iretW hC hR dL_pageOf_20 (Sum.inr u9) ⟨hp, (if_neg (by rw [e9]; decide)).symm⟩ rfl (Nat.le_of_ble_eq_true rfl) (Nat.le_of_ble_eq_true rfl)
  · refine J_i2l (v := r9.toInt64) hC dL_pageOf_8 rfl ?_
    refine J_last (i := 0) (ws' := (ol, LC G (vp_updL f0 0 r9.toInt64)) :: W1 u9) hC dL_pageOf_9 0 rfl (by decide) (by decide) rfl ?_
    refine J_goto (tgt := 21) hC dL_pageOf_10 (by decide) ?_
    refine J_iconst (v := 0) hC dL_pageOf_21 rfl ?_
    exact J_iretW hC hR dL_pageOf_22 (Sum.inl (r9, u9)) ⟨rfl, h9⟩ rfl (Nat.le_of_ble_eq_true rfl) (Nat.le_of_ble_eq_true rfl)

set_option maxRecDepth 100000 in
set_option maxHeartbeats 4000000 in
theorem w_forecastAt {S SY : Type} (l : Launch) (G : gT) (W : va_W) (o ol : Nat) (fs : List Value) (h0 : W[0]? = some (o, .inr (10, fs))) (z1 : Int32) (f0 : Nat → Int64) {post : Int32 → S → Prop} {W1 : S → va_W} {py : SY → Prop} {EY : SY → String} {WY : SY → va_W} (hM : TI l yX10_forecastAt cX10_forecastAt 2 (some .int) { frames := 7, cells := 1, slots := 6, locals := 110 } [.ref o, .int z1] G W post W1 py EY WY) (hE : ∀ u, py u → EY u = eNSE) : WX l yL_forecastAt cL_forecastAt 4 [(0, 9, 12, 69)] { frames := 8, cells := 1, slots := 6, locals := 137 } [.ref o, .int z1, .ref ol] G ((ol, LC G f0) :: W) (wP (fun _ => 1) post py) (wW G ol f0 W1 WY) := by
  refine jw_i (own := RL) (by decide) rfl (Nat.le_of_ble_eq_true rfl) (fun x hl hC hR => ?_)
  subst hl
  refine J_aload_n hC dL_forecastAt_0 2 rfl rfl ?_
  refine J_iconst (v := nI 0) hC dL_forecastAt_1 rfl ?_
  refine J_aload_n hC dL_forecastAt_2 0 rfl rfl ?_
  refine J_iload_n hC dL_forecastAt_3 1 rfl rfl ?_
  refine J_callTiC hC hR dL_forecastAt_4 wl_L_80 yi_X10_forecastAt (consT_i (ol, LC G f0) hM) rfl rfl 1 10 h0 rfl ⟨Nat.le_of_ble_eq_true rfl, Nat.le_of_ble_eq_true rfl⟩ (Nat.le_of_ble_eq_true rfl) (Nat.le_of_ble_eq_true rfl) (Nat.le_of_ble_eq_true rfl) (fun u9 q9 hp => ?_) (fun r9 u9 h9 => ?_)
  · have e9 := hE u9 hp
    refine ⟨12, by rw [e9]; exact catch1 hC hR rfl (by decide) (by decide) wk_L_69 (by decide), ?_⟩
    refine J_astore_n hC [(3, .ref q9), (0, .ref o), (1, .int z1), (2, .ref ol)] dL_forecastAt_12 rfl (by decide) rfl ?_
    refine J_iconst (v := 1) hC dL_forecastAt_13 rfl ?_
    exact J_iretW hC hR dL_forecastAt_14 (Sum.inr u9) ⟨hp, rfl⟩ rfl (Nat.le_of_ble_eq_true rfl) (Nat.le_of_ble_eq_true rfl)
  · refine J_i2l (v := r9.toInt64) hC dL_forecastAt_7 rfl ?_
    refine J_last (i := 0) (ws' := (ol, LC G (vp_updL f0 0 r9.toInt64)) :: W1 u9) hC dL_forecastAt_8 0 rfl (by decide) (by decide) rfl ?_
    refine J_goto (tgt := 15) hC dL_forecastAt_9 (by decide) ?_
    refine J_iconst (v := 0) hC dL_forecastAt_15 rfl ?_
    exact J_iretW hC hR dL_forecastAt_16 (Sum.inl (r9, u9)) ⟨rfl, h9⟩ rfl (Nat.le_of_ble_eq_true rfl) (Nat.le_of_ble_eq_true rfl)

set_option maxRecDepth 100000 in
set_option maxHeartbeats 4000000 in
theorem w_refundOf {S SY : Type} (l : Launch) (G : gT) (W : va_W) (o ol : Nat) (fs : List Value) (h0 : W[0]? = some (o, .inr (10, fs))) (z1 : Int32) (f0 : Nat → Int64) {post : Int32 → S → Prop} {W1 : S → va_W} {py : SY → Prop} {EY : SY → String} {WY : SY → va_W} (hM : TI l yX10_refundOf cX10_refundOf 2 (some .int) { frames := 7, cells := 1, slots := 6, locals := 110 } [.ref o, .int z1] G W post W1 py EY WY) (hE : ∀ u, py u → EY u = eNSE) : WX l yL_refundOf cL_refundOf 4 [(0, 9, 12, 69)] { frames := 8, cells := 1, slots := 6, locals := 137 } [.ref o, .int z1, .ref ol] G ((ol, LC G f0) :: W) (wP (fun _ => 1) post py) (wW G ol f0 W1 WY) := by
  refine jw_i (own := RL) (by decide) rfl (Nat.le_of_ble_eq_true rfl) (fun x hl hC hR => ?_)
  subst hl
  refine J_aload_n hC dL_refundOf_0 2 rfl rfl ?_
  refine J_iconst (v := nI 0) hC dL_refundOf_1 rfl ?_
  refine J_aload_n hC dL_refundOf_2 0 rfl rfl ?_
  refine J_iload_n hC dL_refundOf_3 1 rfl rfl ?_
  refine J_callTiC hC hR dL_refundOf_4 wl_L_83 yi_X10_refundOf (consT_i (ol, LC G f0) hM) rfl rfl 1 10 h0 rfl ⟨Nat.le_of_ble_eq_true rfl, Nat.le_of_ble_eq_true rfl⟩ (Nat.le_of_ble_eq_true rfl) (Nat.le_of_ble_eq_true rfl) (Nat.le_of_ble_eq_true rfl) (fun u9 q9 hp => ?_) (fun r9 u9 h9 => ?_)
  · have e9 := hE u9 hp
    refine ⟨12, by rw [e9]; exact catch1 hC hR rfl (by decide) (by decide) wk_L_69 (by decide), ?_⟩
    refine J_astore_n hC [(3, .ref q9), (0, .ref o), (1, .int z1), (2, .ref ol)] dL_refundOf_12 rfl (by decide) rfl ?_
    refine J_iconst (v := 1) hC dL_refundOf_13 rfl ?_
    exact J_iretW hC hR dL_refundOf_14 (Sum.inr u9) ⟨hp, rfl⟩ rfl (Nat.le_of_ble_eq_true rfl) (Nat.le_of_ble_eq_true rfl)
  · refine J_i2l (v := r9.toInt64) hC dL_refundOf_7 rfl ?_
    refine J_last (i := 0) (ws' := (ol, LC G (vp_updL f0 0 r9.toInt64)) :: W1 u9) hC dL_refundOf_8 0 rfl (by decide) (by decide) rfl ?_
    refine J_goto (tgt := 15) hC dL_refundOf_9 (by decide) ?_
    refine J_iconst (v := 0) hC dL_refundOf_15 rfl ?_
    exact J_iretW hC hR dL_refundOf_16 (Sum.inl (r9, u9)) ⟨rfl, h9⟩ rfl (Nat.le_of_ble_eq_true rfl) (Nat.le_of_ble_eq_true rfl)

set_option maxRecDepth 100000 in
set_option maxHeartbeats 4000000 in
theorem w_canRetract {S SY : Type} (l : Launch) (G : gT) (W : va_W) (o ol : Nat) (fs : List Value) (h0 : W[0]? = some (o, .inr (10, fs))) (z1 : Int32) (f0 : Nat → Int64) {post : Int32 → S → Prop} {W1 : S → va_W} {py : SY → Prop} {EY : SY → String} {WY : SY → va_W} (hM : TI l yX10_canRetract cX10_canRetract 2 (some .boolean) { frames := 7, cells := 1, slots := 6, locals := 110 } [.ref o, .int z1] G W post W1 py EY WY) (hE : ∀ u, py u → EY u = eNSE) : WX l yL_canRetract cL_canRetract 4 [(0, 16, 19, 69)] { frames := 8, cells := 1, slots := 6, locals := 137 } [.ref o, .int z1, .ref ol] G ((ol, LC G f0) :: W) (wP (fun _ => 1) post py) (wWb G ol f0 W1 WY) := by
  refine jw_i (own := RL) (by decide) rfl (Nat.le_of_ble_eq_true rfl) (fun x hl hC hR => ?_)
  subst hl
  refine J_aload_n hC dL_canRetract_0 2 rfl rfl ?_
  refine J_iconst (v := nI 0) hC dL_canRetract_1 rfl ?_
  refine J_aload_n hC dL_canRetract_2 0 rfl rfl ?_
  refine J_iload_n hC dL_canRetract_3 1 rfl rfl ?_
  refine J_callTiC hC hR dL_canRetract_4 wl_L_86 yi_X10_canRetract (consT_i (ol, LC G f0) hM) rfl rfl 1 10 h0 rfl ⟨Nat.le_of_ble_eq_true rfl, Nat.le_of_ble_eq_true rfl⟩ (Nat.le_of_ble_eq_true rfl) (Nat.le_of_ble_eq_true rfl) (Nat.le_of_ble_eq_true rfl) (fun u9 q9 hp => ?_) (fun r9 u9 h9 => ?_)
  · have e9 := hE u9 hp
    refine ⟨19, by rw [e9]; exact catch1 hC hR rfl (by decide) (by decide) wk_L_69 (by decide), ?_⟩
    refine J_astore_n hC [(3, .ref q9), (0, .ref o), (1, .int z1), (2, .ref ol)] dL_canRetract_19 rfl (by decide) rfl ?_
    refine J_iconst (v := 1) hC dL_canRetract_20 rfl ?_
    exact J_iretW hC hR dL_canRetract_21 (Sum.inr u9) ⟨hp, rfl⟩ rfl (Nat.le_of_ble_eq_true rfl) (Nat.le_of_ble_eq_true rfl)
  · refine J_if_eq (tgt := 14) hC dL_canRetract_7 (by decide) (fun c => ?_) (fun c => ?_)
    · refine J_lconst (v := 0) hC dL_canRetract_14 rfl ?_
      refine J_last (i := 0) (ws' := (ol, LC G (vp_updL f0 0 0)) :: W1 u9) hC dL_canRetract_15 0 rfl (by decide) (by decide) rfl ?_
      refine J_goto (tgt := 22) hC dL_canRetract_16 (by decide) ?_
      refine J_iconst (v := 0) hC dL_canRetract_22 rfl ?_
      exact J_iretW hC hR dL_canRetract_23 (Sum.inl (r9, u9)) ⟨rfl, h9⟩ (by rw [wWb]; dsimp only; rw [if_pos c]) (Nat.le_of_ble_eq_true rfl) (Nat.le_of_ble_eq_true rfl)
    · refine J_lconst (v := 1) hC dL_canRetract_10 rfl ?_
      refine J_goto (tgt := 15) hC dL_canRetract_11 (by decide) ?_
      refine J_last (i := 0) (ws' := (ol, LC G (vp_updL f0 0 1)) :: W1 u9) hC dL_canRetract_15 0 rfl (by decide) (by decide) rfl ?_
      refine J_goto (tgt := 22) hC dL_canRetract_16 (by decide) ?_
      refine J_iconst (v := 0) hC dL_canRetract_22 rfl ?_
      exact J_iretW hC hR dL_canRetract_23 (Sum.inl (r9, u9)) ⟨rfl, h9⟩ (by rw [wWb]; dsimp only; rw [if_neg c]) (Nat.le_of_ble_eq_true rfl) (Nat.le_of_ble_eq_true rfl)

set_option maxRecDepth 100000 in
set_option maxHeartbeats 4000000 in
theorem w_printRefusal {S SY : Type} (l : Launch) (G : gT) (W : va_W) (o ol : Nat) (fs : List Value) (h0 : W[0]? = some (o, .inr (10, fs))) (z1 z2 : Int32) (f0 : Nat → Int64) {post : Int32 → S → Prop} {W1 : S → va_W} {py : SY → Prop} {EY : SY → String} {WY : SY → va_W} (hM : TI l yX10_printRefusal cX10_printRefusal 3 (some .int) { frames := 7, cells := 1, slots := 6, locals := 110 } [.ref o, .int z1, .int z2] G W post W1 py EY WY) (hE : ∀ u, py u → EY u = eIOOB) : WX l yL_printRefusal cL_printRefusal 5 [(0, 10, 13, 28)] { frames := 8, cells := 1, slots := 6, locals := 138 } [.ref o, .int z1, .int z2, .ref ol] G ((ol, LC G f0) :: W) (wP (fun _ => 1) post py) (wW G ol f0 W1 WY) := by
  refine jw_i (own := RL) (by decide) rfl (Nat.le_of_ble_eq_true rfl) (fun x hl hC hR => ?_)
  subst hl
  refine J_aload_n hC dL_printRefusal_0 3 rfl rfl ?_
  refine J_iconst (v := nI 0) hC dL_printRefusal_1 rfl ?_
  refine J_aload_n hC dL_printRefusal_2 0 rfl rfl ?_
  refine J_iload_n hC dL_printRefusal_3 1 rfl rfl ?_
  refine J_iload_n hC dL_printRefusal_4 2 rfl rfl ?_
  refine J_callTiC hC hR dL_printRefusal_5 wl_L_90 yi_X10_printRefusal (consT_i (ol, LC G f0) hM) rfl rfl 1 10 h0 rfl ⟨Nat.le_of_ble_eq_true rfl, Nat.le_of_ble_eq_true rfl⟩ (Nat.le_of_ble_eq_true rfl) (Nat.le_of_ble_eq_true rfl) (Nat.le_of_ble_eq_true rfl) (fun u9 q9 hp => ?_) (fun r9 u9 h9 => ?_)
  · have e9 := hE u9 hp
    refine ⟨13, by rw [e9]; exact catch1 hC hR rfl (by decide) (by decide) wk_L_28 (by decide), ?_⟩
    refine J_astore hC [(4, .ref q9), (0, .ref o), (1, .int z1), (2, .int z2), (3, .ref ol)] dL_printRefusal_13 (by decide) rfl ?_
    refine J_iconst (v := 1) hC dL_printRefusal_15 rfl ?_
    exact J_iretW hC hR dL_printRefusal_16 (Sum.inr u9) ⟨hp, rfl⟩ rfl (Nat.le_of_ble_eq_true rfl) (Nat.le_of_ble_eq_true rfl)
  · refine J_i2l (v := r9.toInt64) hC dL_printRefusal_8 rfl ?_
    refine J_last (i := 0) (ws' := (ol, LC G (vp_updL f0 0 r9.toInt64)) :: W1 u9) hC dL_printRefusal_9 0 rfl (by decide) (by decide) rfl ?_
    refine J_goto (tgt := 17) hC dL_printRefusal_10 (by decide) ?_
    refine J_iconst (v := 0) hC dL_printRefusal_17 rfl ?_
    exact J_iretW hC hR dL_printRefusal_18 (Sum.inl (r9, u9)) ⟨rfl, h9⟩ rfl (Nat.le_of_ble_eq_true rfl) (Nat.le_of_ble_eq_true rfl)

set_option maxRecDepth 100000 in
set_option maxHeartbeats 4000000 in
theorem w_tomorrowIn {S SY : Type} (l : Launch) (G : gT) (W : va_W) (o ol : Nat) (fs : List Value) (h0 : W[0]? = some (o, .inr (10, fs))) (z1 : Int32) (f0 : Nat → Int64) {post : Int32 → S → Prop} {W1 : S → va_W} {py : SY → Prop} {EY : SY → String} {WY : SY → va_W} (hM : TI l yX10_tomorrowIn cX10_tomorrowIn 4 (some .int) { frames := 7, cells := 1, slots := 6, locals := 104 } [.ref o, .int z1] G W post W1 py EY WY) (hE : ∀ u, py u → EY u = eIOOB) : WX l yL_tomorrowIn cL_tomorrowIn 4 [(0, 9, 12, 28)] { frames := 8, cells := 1, slots := 6, locals := 133 } [.ref o, .int z1, .ref ol] G ((ol, LC G f0) :: W) (wP (fun _ => 1) post py) (wW G ol f0 W1 WY) := by
  refine jw_i (own := RL) (by decide) rfl (Nat.le_of_ble_eq_true rfl) (fun x hl hC hR => ?_)
  subst hl
  refine J_aload_n hC dL_tomorrowIn_0 2 rfl rfl ?_
  refine J_iconst (v := nI 0) hC dL_tomorrowIn_1 rfl ?_
  refine J_aload_n hC dL_tomorrowIn_2 0 rfl rfl ?_
  refine J_iload_n hC dL_tomorrowIn_3 1 rfl rfl ?_
  refine J_callTiC hC hR dL_tomorrowIn_4 wl_L_93 yi_X10_tomorrowIn (consT_i (ol, LC G f0) hM) rfl rfl 1 10 h0 rfl ⟨Nat.le_of_ble_eq_true rfl, Nat.le_of_ble_eq_true rfl⟩ (Nat.le_of_ble_eq_true rfl) (Nat.le_of_ble_eq_true rfl) (Nat.le_of_ble_eq_true rfl) (fun u9 q9 hp => ?_) (fun r9 u9 h9 => ?_)
  · have e9 := hE u9 hp
    refine ⟨12, by rw [e9]; exact catch1 hC hR rfl (by decide) (by decide) wk_L_28 (by decide), ?_⟩
    refine J_astore_n hC [(3, .ref q9), (0, .ref o), (1, .int z1), (2, .ref ol)] dL_tomorrowIn_12 rfl (by decide) rfl ?_
    refine J_iconst (v := 1) hC dL_tomorrowIn_13 rfl ?_
    exact J_iretW hC hR dL_tomorrowIn_14 (Sum.inr u9) ⟨hp, rfl⟩ rfl (Nat.le_of_ble_eq_true rfl) (Nat.le_of_ble_eq_true rfl)
  · refine J_i2l (v := r9.toInt64) hC dL_tomorrowIn_7 rfl ?_
    refine J_last (i := 0) (ws' := (ol, LC G (vp_updL f0 0 r9.toInt64)) :: W1 u9) hC dL_tomorrowIn_8 0 rfl (by decide) (by decide) rfl ?_
    refine J_goto (tgt := 15) hC dL_tomorrowIn_9 (by decide) ?_
    refine J_iconst (v := 0) hC dL_tomorrowIn_15 rfl ?_
    exact J_iretW hC hR dL_tomorrowIn_16 (Sum.inl (r9, u9)) ⟨rfl, h9⟩ rfl (Nat.le_of_ble_eq_true rfl) (Nat.le_of_ble_eq_true rfl)

set_option maxRecDepth 100000 in
set_option maxHeartbeats 4000000 in
theorem w_regretAt {S SY : Type} (l : Launch) (G : gT) (W : va_W) (o ol : Nat) (fs : List Value) (h0 : W[0]? = some (o, .inr (10, fs))) (z1 : Int32) (f0 : Nat → Int64) {post : Int32 → S → Prop} {W1 : S → va_W} {py : SY → Prop} {EY : SY → String} {WY : SY → va_W} (hM : TI l yX10_regretAt cX10_regretAt 2 (some .int) { frames := 7, cells := 1, slots := 6, locals := 110 } [.ref o, .int z1] G W post W1 py EY WY) (hE : ∀ u, py u → EY u = eIOOB) : WX l yL_regretAt cL_regretAt 4 [(0, 9, 12, 28)] { frames := 8, cells := 1, slots := 6, locals := 137 } [.ref o, .int z1, .ref ol] G ((ol, LC G f0) :: W) (wP (fun _ => 1) post py) (wW G ol f0 W1 WY) := by
  refine jw_i (own := RL) (by decide) rfl (Nat.le_of_ble_eq_true rfl) (fun x hl hC hR => ?_)
  subst hl
  refine J_aload_n hC dL_regretAt_0 2 rfl rfl ?_
  refine J_iconst (v := nI 0) hC dL_regretAt_1 rfl ?_
  refine J_aload_n hC dL_regretAt_2 0 rfl rfl ?_
  refine J_iload_n hC dL_regretAt_3 1 rfl rfl ?_
  refine J_callTiC hC hR dL_regretAt_4 wl_L_96 yi_X10_regretAt (consT_i (ol, LC G f0) hM) rfl rfl 1 10 h0 rfl ⟨Nat.le_of_ble_eq_true rfl, Nat.le_of_ble_eq_true rfl⟩ (Nat.le_of_ble_eq_true rfl) (Nat.le_of_ble_eq_true rfl) (Nat.le_of_ble_eq_true rfl) (fun u9 q9 hp => ?_) (fun r9 u9 h9 => ?_)
  · have e9 := hE u9 hp
    refine ⟨12, by rw [e9]; exact catch1 hC hR rfl (by decide) (by decide) wk_L_28 (by decide), ?_⟩
    refine J_astore_n hC [(3, .ref q9), (0, .ref o), (1, .int z1), (2, .ref ol)] dL_regretAt_12 rfl (by decide) rfl ?_
    refine J_iconst (v := 1) hC dL_regretAt_13 rfl ?_
    exact J_iretW hC hR dL_regretAt_14 (Sum.inr u9) ⟨hp, rfl⟩ rfl (Nat.le_of_ble_eq_true rfl) (Nat.le_of_ble_eq_true rfl)
  · refine J_i2l (v := r9.toInt64) hC dL_regretAt_7 rfl ?_
    refine J_last (i := 0) (ws' := (ol, LC G (vp_updL f0 0 r9.toInt64)) :: W1 u9) hC dL_regretAt_8 0 rfl (by decide) (by decide) rfl ?_
    refine J_goto (tgt := 15) hC dL_regretAt_9 (by decide) ?_
    refine J_iconst (v := 0) hC dL_regretAt_15 rfl ?_
    exact J_iretW hC hR dL_regretAt_16 (Sum.inl (r9, u9)) ⟨rfl, h9⟩ rfl (Nat.le_of_ble_eq_true rfl) (Nat.le_of_ble_eq_true rfl)

set_option maxRecDepth 100000 in
set_option maxHeartbeats 4000000 in
theorem w_coinsAfter {S SY : Type} (l : Launch) (G : gT) (W : va_W) (o ol : Nat) (fs : List Value) (h0 : W[0]? = some (o, .inr (10, fs))) (z1 : Int32) (f0 : Nat → Int64) {post : Int32 → S → Prop} {W1 : S → va_W} {py : SY → Prop} {EY : SY → String} {WY : SY → va_W} (hM : TI l yX10_coinsAfter cX10_coinsAfter 2 (some .int) { frames := 7, cells := 1, slots := 6, locals := 124 } [.ref o, .int z1] G W post W1 py EY WY) (hE : ∀ u, py u → EY u = eIAE) : WX l yL_coinsAfter cL_coinsAfter 4 [(0, 9, 12, 19)] { frames := 8, cells := 1, slots := 6, locals := 151 } [.ref o, .int z1, .ref ol] G ((ol, LC G f0) :: W) (wP (fun _ => 1) post py) (wW G ol f0 W1 WY) := by
  refine jw_i (own := RL) (by decide) rfl (Nat.le_of_ble_eq_true rfl) (fun x hl hC hR => ?_)
  subst hl
  refine J_aload_n hC dL_coinsAfter_0 2 rfl rfl ?_
  refine J_iconst (v := nI 0) hC dL_coinsAfter_1 rfl ?_
  refine J_aload_n hC dL_coinsAfter_2 0 rfl rfl ?_
  refine J_iload_n hC dL_coinsAfter_3 1 rfl rfl ?_
  refine J_callTiC hC hR dL_coinsAfter_4 wl_L_99 yi_X10_coinsAfter (consT_i (ol, LC G f0) hM) rfl rfl 1 10 h0 rfl ⟨Nat.le_of_ble_eq_true rfl, Nat.le_of_ble_eq_true rfl⟩ (Nat.le_of_ble_eq_true rfl) (Nat.le_of_ble_eq_true rfl) (Nat.le_of_ble_eq_true rfl) (fun u9 q9 hp => ?_) (fun r9 u9 h9 => ?_)
  · have e9 := hE u9 hp
    refine ⟨12, by rw [e9]; exact catch1 hC hR rfl (by decide) (by decide) wk_L_19 (by decide), ?_⟩
    refine J_astore_n hC [(3, .ref q9), (0, .ref o), (1, .int z1), (2, .ref ol)] dL_coinsAfter_12 rfl (by decide) rfl ?_
    refine J_iconst (v := 1) hC dL_coinsAfter_13 rfl ?_
    exact J_iretW hC hR dL_coinsAfter_14 (Sum.inr u9) ⟨hp, rfl⟩ rfl (Nat.le_of_ble_eq_true rfl) (Nat.le_of_ble_eq_true rfl)
  · refine J_i2l (v := r9.toInt64) hC dL_coinsAfter_7 rfl ?_
    refine J_last (i := 0) (ws' := (ol, LC G (vp_updL f0 0 r9.toInt64)) :: W1 u9) hC dL_coinsAfter_8 0 rfl (by decide) (by decide) rfl ?_
    refine J_goto (tgt := 15) hC dL_coinsAfter_9 (by decide) ?_
    refine J_iconst (v := 0) hC dL_coinsAfter_15 rfl ?_
    exact J_iretW hC hR dL_coinsAfter_16 (Sum.inl (r9, u9)) ⟨rfl, h9⟩ rfl (Nat.le_of_ble_eq_true rfl) (Nat.le_of_ble_eq_true rfl)

set_option maxRecDepth 100000 in
set_option maxHeartbeats 4000000 in
theorem w_trustAfter {S SY : Type} (l : Launch) (G : gT) (W : va_W) (o ol : Nat) (fs : List Value) (h0 : W[0]? = some (o, .inr (10, fs))) (z1 z2 : Int32) (f0 : Nat → Int64) {post : Int32 → S → Prop} {W1 : S → va_W} {py : SY → Prop} {EY : SY → String} {WY : SY → va_W} (hM : TI l yX10_trustAfter cX10_trustAfter 3 (some .int) { frames := 7, cells := 2, slots := 12, locals := 124 } [.ref o, .int z1, .int z2] G W post W1 py EY WY) (hE : ∀ u, py u → EY u = eIOOB ∨ EY u = eIAE) : WX l yL_trustAfter cL_trustAfter 5 [(0, 10, 13, 28), (0, 10, 17, 19)] { frames := 8, cells := 2, slots := 12, locals := 152 } [.ref o, .int z1, .int z2, .ref ol] G ((ol, LC G f0) :: W) (wP (fun u => if EY u = eIOOB then 1 else 2) post py) (wW G ol f0 W1 WY) := by
  refine jw_i (own := RL) (by decide) rfl (Nat.le_of_ble_eq_true rfl) (fun x hl hC hR => ?_)
  subst hl
  refine J_aload_n hC dL_trustAfter_0 3 rfl rfl ?_
  refine J_iconst (v := nI 0) hC dL_trustAfter_1 rfl ?_
  refine J_aload_n hC dL_trustAfter_2 0 rfl rfl ?_
  refine J_iload_n hC dL_trustAfter_3 1 rfl rfl ?_
  refine J_iload_n hC dL_trustAfter_4 2 rfl rfl ?_
  refine J_callTiC hC hR dL_trustAfter_5 wl_L_102 yi_X10_trustAfter (consT_i (ol, LC G f0) hM) rfl rfl 1 10 h0 rfl ⟨Nat.le_of_ble_eq_true rfl, Nat.le_of_ble_eq_true rfl⟩ (Nat.le_of_ble_eq_true rfl) (Nat.le_of_ble_eq_true rfl) (Nat.le_of_ble_eq_true rfl) (fun u9 q9 hp => ?_) (fun r9 u9 h9 => ?_)
  · rcases hE u9 hp with e9 | e9
    · refine ⟨13, by rw [e9]; exact catch1 hC hR rfl (by decide) (by decide) wk_L_28 (by decide), ?_⟩
      refine J_astore hC [(4, .ref q9), (0, .ref o), (1, .int z1), (2, .int z2), (3, .ref ol)] dL_trustAfter_13 (by decide) rfl ?_
      refine J_iconst (v := 1) hC dL_trustAfter_15 rfl ?_
      exact J_iretW hC hR dL_trustAfter_16 (Sum.inr u9) ⟨hp, (if_pos e9).symm⟩ rfl (Nat.le_of_ble_eq_true rfl) (Nat.le_of_ble_eq_true rfl)
    · refine ⟨17, by rw [e9]; exact catch2 hC hR rfl (by decide) wk_L_28 (by decide) (by decide) (by decide) wk_L_19 (by decide), ?_⟩
      refine J_astore hC [(4, .ref q9), (0, .ref o), (1, .int z1), (2, .int z2), (3, .ref ol)] dL_trustAfter_17 (by decide) rfl ?_
      refine J_iconst (v := 2) hC dL_trustAfter_19 rfl ?_
      exact J_iretW hC hR dL_trustAfter_20 (Sum.inr u9) ⟨hp, (if_neg (by rw [e9]; decide)).symm⟩ rfl (Nat.le_of_ble_eq_true rfl) (Nat.le_of_ble_eq_true rfl)
  · refine J_i2l (v := r9.toInt64) hC dL_trustAfter_8 rfl ?_
    refine J_last (i := 0) (ws' := (ol, LC G (vp_updL f0 0 r9.toInt64)) :: W1 u9) hC dL_trustAfter_9 0 rfl (by decide) (by decide) rfl ?_
    refine J_goto (tgt := 21) hC dL_trustAfter_10 (by decide) ?_
    refine J_iconst (v := 0) hC dL_trustAfter_21 rfl ?_
    exact J_iretW hC hR dL_trustAfter_22 (Sum.inl (r9, u9)) ⟨rfl, h9⟩ rfl (Nat.le_of_ble_eq_true rfl) (Nat.le_of_ble_eq_true rfl)

set_option maxRecDepth 100000 in
set_option maxHeartbeats 4000000 in
theorem w_print {S SY : Type} (l : Launch) (G : gT) (W : va_W) (o ol : Nat) (fs : List Value) (h0 : W[0]? = some (o, .inr (10, fs))) (z1 z2 z3 : Int32) (f0 : Nat → Int64) {post : Int32 → S → Prop} {W1 : S → va_W} {py : SY → Prop} {EY : SY → String} {WY : SY → va_W} (hM : TI l yX10_print cX10_print 4 (some .int) { frames := 7, cells := 3, slots := 18, locals := 120 } [.ref o, .int z1, .int z2, .int z3] G W post W1 py EY WY) (hE : ∀ u, py u → EY u = eIOOB ∨ EY u = eIAE ∨ EY u = eISE) : WX l yL_print cL_print 6 [(0, 12, 15, 28), (0, 12, 19, 19), (0, 12, 23, 13)] { frames := 8, cells := 3, slots := 18, locals := 149 } [.ref o, .int z1, .int z2, .int z3, .ref ol] G ((ol, LC G f0) :: W) (wP (fun u => if EY u = eIOOB then 1 else if EY u = eIAE then 2 else 3) post py) (wW G ol f0 W1 WY) := by
  refine jw_i (own := RL) (by decide) rfl (Nat.le_of_ble_eq_true rfl) (fun x hl hC hR => ?_)
  subst hl
  refine J_aload hC dL_print_0 4 rfl ?_
  refine J_iconst (v := nI 0) hC dL_print_2 rfl ?_
  refine J_aload_n hC dL_print_3 0 rfl rfl ?_
  refine J_iload_n hC dL_print_4 1 rfl rfl ?_
  refine J_iload_n hC dL_print_5 2 rfl rfl ?_
  refine J_iload_n hC dL_print_6 3 rfl rfl ?_
  refine J_callTiC hC hR dL_print_7 wl_L_105 yi_X10_print (consT_i (ol, LC G f0) hM) rfl rfl 1 10 h0 rfl ⟨Nat.le_of_ble_eq_true rfl, Nat.le_of_ble_eq_true rfl⟩ (Nat.le_of_ble_eq_true rfl) (Nat.le_of_ble_eq_true rfl) (Nat.le_of_ble_eq_true rfl) (fun u9 q9 hp => ?_) (fun r9 u9 h9 => ?_)
  · rcases hE u9 hp with e9 | e9 | e9
    · refine ⟨15, by rw [e9]; exact catch1 hC hR rfl (by decide) (by decide) wk_L_28 (by decide), ?_⟩
      refine J_astore hC [(5, .ref q9), (0, .ref o), (1, .int z1), (2, .int z2), (3, .int z3), (4, .ref ol)] dL_print_15 (by decide) rfl ?_
      refine J_iconst (v := 1) hC dL_print_17 rfl ?_
      exact J_iretW hC hR dL_print_18 (Sum.inr u9) ⟨hp, (if_pos e9).symm⟩ rfl (Nat.le_of_ble_eq_true rfl) (Nat.le_of_ble_eq_true rfl)
    · refine ⟨19, by rw [e9]; exact catch2 hC hR rfl (by decide) wk_L_28 (by decide) (by decide) (by decide) wk_L_19 (by decide), ?_⟩
      refine J_astore hC [(5, .ref q9), (0, .ref o), (1, .int z1), (2, .int z2), (3, .int z3), (4, .ref ol)] dL_print_19 (by decide) rfl ?_
      refine J_iconst (v := 2) hC dL_print_21 rfl ?_
      exact J_iretW hC hR dL_print_22 (Sum.inr u9) ⟨hp, by dsimp only; rw [if_neg (by rw [e9]; decide), if_pos e9]⟩ rfl (Nat.le_of_ble_eq_true rfl) (Nat.le_of_ble_eq_true rfl)
    · refine ⟨23, by rw [e9]; exact catch3 hC hR rfl (by decide) wk_L_28 (by decide) (by decide) wk_L_19 (by decide) (by decide) (by decide) wk_L_13 (by decide), ?_⟩
      refine J_astore hC [(5, .ref q9), (0, .ref o), (1, .int z1), (2, .int z2), (3, .int z3), (4, .ref ol)] dL_print_23 (by decide) rfl ?_
      refine J_iconst (v := 3) hC dL_print_25 rfl ?_
      exact J_iretW hC hR dL_print_26 (Sum.inr u9) ⟨hp, by dsimp only; rw [if_neg (by rw [e9]; decide), if_neg (by rw [e9]; decide)]⟩ rfl (Nat.le_of_ble_eq_true rfl) (Nat.le_of_ble_eq_true rfl)
  · refine J_i2l (v := r9.toInt64) hC dL_print_10 rfl ?_
    refine J_last (i := 0) (ws' := (ol, LC G (vp_updL f0 0 r9.toInt64)) :: W1 u9) hC dL_print_11 0 rfl (by decide) (by decide) rfl ?_
    refine J_goto (tgt := 27) hC dL_print_12 (by decide) ?_
    refine J_iconst (v := 0) hC dL_print_27 rfl ?_
    exact J_iretW hC hR dL_print_28 (Sum.inl (r9, u9)) ⟨rfl, h9⟩ rfl (Nat.le_of_ble_eq_true rfl) (Nat.le_of_ble_eq_true rfl)

set_option maxRecDepth 100000 in
set_option maxHeartbeats 4000000 in
theorem w_retract {S SY : Type} (l : Launch) (G : gT) (W : va_W) (o ol : Nat) (fs : List Value) (h0 : W[0]? = some (o, .inr (10, fs))) (z1 : Int32) (f0 : Nat → Int64) {post : Int32 → S → Prop} {W1 : S → va_W} {py : SY → Prop} {EY : SY → String} {WY : SY → va_W} (hM : TI l yX10_retract cX10_retract 2 (some .int) { frames := 7, cells := 2, slots := 12, locals := 104 } [.ref o, .int z1] G W post W1 py EY WY) (hE : ∀ u, py u → EY u = eNSE ∨ EY u = eISE) : WX l yL_retract cL_retract 4 [(0, 9, 12, 69), (0, 9, 15, 13)] { frames := 8, cells := 2, slots := 12, locals := 131 } [.ref o, .int z1, .ref ol] G ((ol, LC G f0) :: W) (wP (fun u => if EY u = eNSE then 1 else 2) post py) (wW G ol f0 W1 WY) := by
  refine jw_i (own := RL) (by decide) rfl (Nat.le_of_ble_eq_true rfl) (fun x hl hC hR => ?_)
  subst hl
  refine J_aload_n hC dL_retract_0 2 rfl rfl ?_
  refine J_iconst (v := nI 0) hC dL_retract_1 rfl ?_
  refine J_aload_n hC dL_retract_2 0 rfl rfl ?_
  refine J_iload_n hC dL_retract_3 1 rfl rfl ?_
  refine J_callTiC hC hR dL_retract_4 wl_L_109 yi_X10_retract (consT_i (ol, LC G f0) hM) rfl rfl 1 10 h0 rfl ⟨Nat.le_of_ble_eq_true rfl, Nat.le_of_ble_eq_true rfl⟩ (Nat.le_of_ble_eq_true rfl) (Nat.le_of_ble_eq_true rfl) (Nat.le_of_ble_eq_true rfl) (fun u9 q9 hp => ?_) (fun r9 u9 h9 => ?_)
  · rcases hE u9 hp with e9 | e9
    · refine ⟨12, by rw [e9]; exact catch1 hC hR rfl (by decide) (by decide) wk_L_69 (by decide), ?_⟩
      refine J_astore_n hC [(3, .ref q9), (0, .ref o), (1, .int z1), (2, .ref ol)] dL_retract_12 rfl (by decide) rfl ?_
      refine J_iconst (v := 1) hC dL_retract_13 rfl ?_
      exact J_iretW hC hR dL_retract_14 (Sum.inr u9) ⟨hp, (if_pos e9).symm⟩ rfl (Nat.le_of_ble_eq_true rfl) (Nat.le_of_ble_eq_true rfl)
    · refine ⟨15, by rw [e9]; exact catch2 hC hR rfl (by decide) wk_L_69 (by decide) (by decide) (by decide) wk_L_13 (by decide), ?_⟩
      refine J_astore_n hC [(3, .ref q9), (0, .ref o), (1, .int z1), (2, .ref ol)] dL_retract_15 rfl (by decide) rfl ?_
      refine J_iconst (v := 2) hC dL_retract_16 rfl ?_
      exact J_iretW hC hR dL_retract_17 (Sum.inr u9) ⟨hp, (if_neg (by rw [e9]; decide)).symm⟩ rfl (Nat.le_of_ble_eq_true rfl) (Nat.le_of_ble_eq_true rfl)
  · refine J_i2l (v := r9.toInt64) hC dL_retract_7 rfl ?_
    refine J_last (i := 0) (ws' := (ol, LC G (vp_updL f0 0 r9.toInt64)) :: W1 u9) hC dL_retract_8 0 rfl (by decide) (by decide) rfl ?_
    refine J_goto (tgt := 18) hC dL_retract_9 (by decide) ?_
    refine J_iconst (v := 0) hC dL_retract_18 rfl ?_
    exact J_iretW hC hR dL_retract_19 (Sum.inl (r9, u9)) ⟨rfl, h9⟩ rfl (Nat.le_of_ble_eq_true rfl) (Nat.le_of_ble_eq_true rfl)

set_option maxRecDepth 100000 in
set_option maxHeartbeats 4000000 in
theorem w_setTrust {S SY : Type} (l : Launch) (G : gT) (W : va_W) (o ol : Nat) (fs : List Value) (h0 : W[0]? = some (o, .inr (10, fs))) (z1 z2 : Int32) (f0 : Nat → Int64) {post : Int32 → S → Prop} {W1 : S → va_W} {py : SY → Prop} {EY : SY → String} {WY : SY → va_W} (hM : TI l yX10_setTrust cX10_setTrust 4 (some .int) { frames := 7, cells := 2, slots := 12, locals := 104 } [.ref o, .int z1, .int z2] G W post W1 py EY WY) (hE : ∀ u, py u → EY u = eIOOB ∨ EY u = eIAE) : WX l yL_setTrust cL_setTrust 5 [(0, 10, 13, 28), (0, 10, 17, 19)] { frames := 8, cells := 2, slots := 12, locals := 133 } [.ref o, .int z1, .int z2, .ref ol] G ((ol, LC G f0) :: W) (wP (fun u => if EY u = eIOOB then 1 else 2) post py) (wW G ol f0 W1 WY) := by
  refine jw_i (own := RL) (by decide) rfl (Nat.le_of_ble_eq_true rfl) (fun x hl hC hR => ?_)
  subst hl
  refine J_aload_n hC dL_setTrust_0 3 rfl rfl ?_
  refine J_iconst (v := nI 0) hC dL_setTrust_1 rfl ?_
  refine J_aload_n hC dL_setTrust_2 0 rfl rfl ?_
  refine J_iload_n hC dL_setTrust_3 1 rfl rfl ?_
  refine J_iload_n hC dL_setTrust_4 2 rfl rfl ?_
  refine J_callTiC hC hR dL_setTrust_5 wl_L_112 yi_X10_setTrust (consT_i (ol, LC G f0) hM) rfl rfl 1 10 h0 rfl ⟨Nat.le_of_ble_eq_true rfl, Nat.le_of_ble_eq_true rfl⟩ (Nat.le_of_ble_eq_true rfl) (Nat.le_of_ble_eq_true rfl) (Nat.le_of_ble_eq_true rfl) (fun u9 q9 hp => ?_) (fun r9 u9 h9 => ?_)
  · rcases hE u9 hp with e9 | e9
    · refine ⟨13, by rw [e9]; exact catch1 hC hR rfl (by decide) (by decide) wk_L_28 (by decide), ?_⟩
      refine J_astore hC [(4, .ref q9), (0, .ref o), (1, .int z1), (2, .int z2), (3, .ref ol)] dL_setTrust_13 (by decide) rfl ?_
      refine J_iconst (v := 1) hC dL_setTrust_15 rfl ?_
      exact J_iretW hC hR dL_setTrust_16 (Sum.inr u9) ⟨hp, (if_pos e9).symm⟩ rfl (Nat.le_of_ble_eq_true rfl) (Nat.le_of_ble_eq_true rfl)
    · refine ⟨17, by rw [e9]; exact catch2 hC hR rfl (by decide) wk_L_28 (by decide) (by decide) (by decide) wk_L_19 (by decide), ?_⟩
      refine J_astore hC [(4, .ref q9), (0, .ref o), (1, .int z1), (2, .int z2), (3, .ref ol)] dL_setTrust_17 (by decide) rfl ?_
      refine J_iconst (v := 2) hC dL_setTrust_19 rfl ?_
      exact J_iretW hC hR dL_setTrust_20 (Sum.inr u9) ⟨hp, (if_neg (by rw [e9]; decide)).symm⟩ rfl (Nat.le_of_ble_eq_true rfl) (Nat.le_of_ble_eq_true rfl)
  · refine J_i2l (v := r9.toInt64) hC dL_setTrust_8 rfl ?_
    refine J_last (i := 0) (ws' := (ol, LC G (vp_updL f0 0 r9.toInt64)) :: W1 u9) hC dL_setTrust_9 0 rfl (by decide) (by decide) rfl ?_
    refine J_goto (tgt := 21) hC dL_setTrust_10 (by decide) ?_
    refine J_iconst (v := 0) hC dL_setTrust_21 rfl ?_
    exact J_iretW hC hR dL_setTrust_22 (Sum.inl (r9, u9)) ⟨rfl, h9⟩ rfl (Nat.le_of_ble_eq_true rfl) (Nat.le_of_ble_eq_true rfl)

set_option maxRecDepth 100000 in
set_option maxHeartbeats 4000000 in
theorem w_setPeople {S SY : Type} (l : Launch) (G : gT) (W : va_W) (o ol : Nat) (fs : List Value) (h0 : W[0]? = some (o, .inr (10, fs))) (z1 z2 : Int32) (f0 : Nat → Int64) {post : Int32 → S → Prop} {W1 : S → va_W} {py : SY → Prop} {EY : SY → String} {WY : SY → va_W} (hM : TI l yX10_setPeople cX10_setPeople 4 (some .int) { frames := 7, cells := 2, slots := 12, locals := 104 } [.ref o, .int z1, .int z2] G W post W1 py EY WY) (hE : ∀ u, py u → EY u = eIOOB ∨ EY u = eIAE) : WX l yL_setPeople cL_setPeople 5 [(0, 10, 13, 28), (0, 10, 17, 19)] { frames := 8, cells := 2, slots := 12, locals := 133 } [.ref o, .int z1, .int z2, .ref ol] G ((ol, LC G f0) :: W) (wP (fun u => if EY u = eIOOB then 1 else 2) post py) (wW G ol f0 W1 WY) := by
  refine jw_i (own := RL) (by decide) rfl (Nat.le_of_ble_eq_true rfl) (fun x hl hC hR => ?_)
  subst hl
  refine J_aload_n hC dL_setPeople_0 3 rfl rfl ?_
  refine J_iconst (v := nI 0) hC dL_setPeople_1 rfl ?_
  refine J_aload_n hC dL_setPeople_2 0 rfl rfl ?_
  refine J_iload_n hC dL_setPeople_3 1 rfl rfl ?_
  refine J_iload_n hC dL_setPeople_4 2 rfl rfl ?_
  refine J_callTiC hC hR dL_setPeople_5 wl_L_115 yi_X10_setPeople (consT_i (ol, LC G f0) hM) rfl rfl 1 10 h0 rfl ⟨Nat.le_of_ble_eq_true rfl, Nat.le_of_ble_eq_true rfl⟩ (Nat.le_of_ble_eq_true rfl) (Nat.le_of_ble_eq_true rfl) (Nat.le_of_ble_eq_true rfl) (fun u9 q9 hp => ?_) (fun r9 u9 h9 => ?_)
  · rcases hE u9 hp with e9 | e9
    · refine ⟨13, by rw [e9]; exact catch1 hC hR rfl (by decide) (by decide) wk_L_28 (by decide), ?_⟩
      refine J_astore hC [(4, .ref q9), (0, .ref o), (1, .int z1), (2, .int z2), (3, .ref ol)] dL_setPeople_13 (by decide) rfl ?_
      refine J_iconst (v := 1) hC dL_setPeople_15 rfl ?_
      exact J_iretW hC hR dL_setPeople_16 (Sum.inr u9) ⟨hp, (if_pos e9).symm⟩ rfl (Nat.le_of_ble_eq_true rfl) (Nat.le_of_ble_eq_true rfl)
    · refine ⟨17, by rw [e9]; exact catch2 hC hR rfl (by decide) wk_L_28 (by decide) (by decide) (by decide) wk_L_19 (by decide), ?_⟩
      refine J_astore hC [(4, .ref q9), (0, .ref o), (1, .int z1), (2, .int z2), (3, .ref ol)] dL_setPeople_17 (by decide) rfl ?_
      refine J_iconst (v := 2) hC dL_setPeople_19 rfl ?_
      exact J_iretW hC hR dL_setPeople_20 (Sum.inr u9) ⟨hp, (if_neg (by rw [e9]; decide)).symm⟩ rfl (Nat.le_of_ble_eq_true rfl) (Nat.le_of_ble_eq_true rfl)
  · refine J_i2l (v := r9.toInt64) hC dL_setPeople_8 rfl ?_
    refine J_last (i := 0) (ws' := (ol, LC G (vp_updL f0 0 r9.toInt64)) :: W1 u9) hC dL_setPeople_9 0 rfl (by decide) (by decide) rfl ?_
    refine J_goto (tgt := 21) hC dL_setPeople_10 (by decide) ?_
    refine J_iconst (v := 0) hC dL_setPeople_21 rfl ?_
    exact J_iretW hC hR dL_setPeople_22 (Sum.inl (r9, u9)) ⟨rfl, h9⟩ rfl (Nat.le_of_ble_eq_true rfl) (Nat.le_of_ble_eq_true rfl)

set_option maxRecDepth 100000 in
set_option maxHeartbeats 4000000 in
theorem w_setOdds {S SY : Type} (l : Launch) (G : gT) (W : va_W) (o ol : Nat) (fs : List Value) (h0 : W[0]? = some (o, .inr (10, fs))) (z1 z2 : Int32) (f0 : Nat → Int64) {post : Int32 → S → Prop} {W1 : S → va_W} {py : SY → Prop} {EY : SY → String} {WY : SY → va_W} (hM : TI l yX10_setOdds cX10_setOdds 4 (some .int) { frames := 7, cells := 3, slots := 18, locals := 104 } [.ref o, .int z1, .int z2] G W post W1 py EY WY) (hE : ∀ u, py u → EY u = eIAE ∨ EY u = eISE) : WX l yL_setOdds cL_setOdds 5 [(0, 10, 13, 19), (0, 10, 17, 13)] { frames := 8, cells := 3, slots := 18, locals := 133 } [.ref o, .int z1, .int z2, .ref ol] G ((ol, LC G f0) :: W) (wP (fun u => if EY u = eIAE then 1 else 2) post py) (wW G ol f0 W1 WY) := by
  refine jw_i (own := RL) (by decide) rfl (Nat.le_of_ble_eq_true rfl) (fun x hl hC hR => ?_)
  subst hl
  refine J_aload_n hC dL_setOdds_0 3 rfl rfl ?_
  refine J_iconst (v := nI 0) hC dL_setOdds_1 rfl ?_
  refine J_aload_n hC dL_setOdds_2 0 rfl rfl ?_
  refine J_iload_n hC dL_setOdds_3 1 rfl rfl ?_
  refine J_iload_n hC dL_setOdds_4 2 rfl rfl ?_
  refine J_callTiC hC hR dL_setOdds_5 wl_L_118 yi_X10_setOdds (consT_i (ol, LC G f0) hM) rfl rfl 1 10 h0 rfl ⟨Nat.le_of_ble_eq_true rfl, Nat.le_of_ble_eq_true rfl⟩ (Nat.le_of_ble_eq_true rfl) (Nat.le_of_ble_eq_true rfl) (Nat.le_of_ble_eq_true rfl) (fun u9 q9 hp => ?_) (fun r9 u9 h9 => ?_)
  · rcases hE u9 hp with e9 | e9
    · refine ⟨13, by rw [e9]; exact catch1 hC hR rfl (by decide) (by decide) wk_L_19 (by decide), ?_⟩
      refine J_astore hC [(4, .ref q9), (0, .ref o), (1, .int z1), (2, .int z2), (3, .ref ol)] dL_setOdds_13 (by decide) rfl ?_
      refine J_iconst (v := 1) hC dL_setOdds_15 rfl ?_
      exact J_iretW hC hR dL_setOdds_16 (Sum.inr u9) ⟨hp, (if_pos e9).symm⟩ rfl (Nat.le_of_ble_eq_true rfl) (Nat.le_of_ble_eq_true rfl)
    · refine ⟨17, by rw [e9]; exact catch2 hC hR rfl (by decide) wk_L_19 (by decide) (by decide) (by decide) wk_L_13 (by decide), ?_⟩
      refine J_astore hC [(4, .ref q9), (0, .ref o), (1, .int z1), (2, .int z2), (3, .ref ol)] dL_setOdds_17 (by decide) rfl ?_
      refine J_iconst (v := 2) hC dL_setOdds_19 rfl ?_
      exact J_iretW hC hR dL_setOdds_20 (Sum.inr u9) ⟨hp, (if_neg (by rw [e9]; decide)).symm⟩ rfl (Nat.le_of_ble_eq_true rfl) (Nat.le_of_ble_eq_true rfl)
  · refine J_i2l (v := r9.toInt64) hC dL_setOdds_8 rfl ?_
    refine J_last (i := 0) (ws' := (ol, LC G (vp_updL f0 0 r9.toInt64)) :: W1 u9) hC dL_setOdds_9 0 rfl (by decide) (by decide) rfl ?_
    refine J_goto (tgt := 21) hC dL_setOdds_10 (by decide) ?_
    refine J_iconst (v := 0) hC dL_setOdds_21 rfl ?_
    exact J_iretW hC hR dL_setOdds_22 (Sum.inl (r9, u9)) ⟨rfl, h9⟩ rfl (Nat.le_of_ble_eq_true rfl) (Nat.le_of_ble_eq_true rfl)

set_option maxRecDepth 100000 in
set_option maxHeartbeats 4000000 in
theorem w_pass {S SY : Type} (l : Launch) (G : gT) (W : va_W) (o ol : Nat) (fs : List Value) (h0 : W[0]? = some (o, .inr (10, fs))) (z1 : Int32) (f0 : Nat → Int64) {post : Int32 → S → Prop} {W1 : S → va_W} {py : SY → Prop} {EY : SY → String} {WY : SY → va_W} (hM : TI l yX10_pass cX10_pass 3 (some .int) { frames := 7, cells := 1, slots := 6, locals := 104 } [.ref o, .int z1] G W post W1 py EY WY) (hE : ∀ u, py u → EY u = eIAE) : WX l yL_pass cL_pass 4 [(0, 9, 12, 19)] { frames := 8, cells := 1, slots := 6, locals := 132 } [.ref o, .int z1, .ref ol] G ((ol, LC G f0) :: W) (wP (fun _ => 1) post py) (wW G ol f0 W1 WY) := by
  refine jw_i (own := RL) (by decide) rfl (Nat.le_of_ble_eq_true rfl) (fun x hl hC hR => ?_)
  subst hl
  refine J_aload_n hC dL_pass_0 2 rfl rfl ?_
  refine J_iconst (v := nI 0) hC dL_pass_1 rfl ?_
  refine J_aload_n hC dL_pass_2 0 rfl rfl ?_
  refine J_iload_n hC dL_pass_3 1 rfl rfl ?_
  refine J_callTiC hC hR dL_pass_4 wl_L_121 yi_X10_pass (consT_i (ol, LC G f0) hM) rfl rfl 1 10 h0 rfl ⟨Nat.le_of_ble_eq_true rfl, Nat.le_of_ble_eq_true rfl⟩ (Nat.le_of_ble_eq_true rfl) (Nat.le_of_ble_eq_true rfl) (Nat.le_of_ble_eq_true rfl) (fun u9 q9 hp => ?_) (fun r9 u9 h9 => ?_)
  · have e9 := hE u9 hp
    refine ⟨12, by rw [e9]; exact catch1 hC hR rfl (by decide) (by decide) wk_L_19 (by decide), ?_⟩
    refine J_astore_n hC [(3, .ref q9), (0, .ref o), (1, .int z1), (2, .ref ol)] dL_pass_12 rfl (by decide) rfl ?_
    refine J_iconst (v := 1) hC dL_pass_13 rfl ?_
    exact J_iretW hC hR dL_pass_14 (Sum.inr u9) ⟨hp, rfl⟩ rfl (Nat.le_of_ble_eq_true rfl) (Nat.le_of_ble_eq_true rfl)
  · refine J_i2l (v := r9.toInt64) hC dL_pass_7 rfl ?_
    refine J_last (i := 0) (ws' := (ol, LC G (vp_updL f0 0 r9.toInt64)) :: W1 u9) hC dL_pass_8 0 rfl (by decide) (by decide) rfl ?_
    refine J_goto (tgt := 15) hC dL_pass_9 (by decide) ?_
    refine J_iconst (v := 0) hC dL_pass_15 rfl ?_
    exact J_iretW hC hR dL_pass_16 (Sum.inl (r9, u9)) ⟨rfl, h9⟩ rfl (Nat.le_of_ble_eq_true rfl) (Nat.le_of_ble_eq_true rfl)

set_option maxRecDepth 100000 in
set_option maxHeartbeats 4000000 in
theorem w_writePage {S SY : Type} (l : Launch) (G : gT) (W : va_W) (o ol : Nat) (fs : List Value) (h0 : W[0]? = some (o, .inr (10, fs))) (z1 : Int32) (f0 : Nat → Int64) {post : Int32 → S → Prop} {W1 : S → va_W} {py : SY → Prop} {EY : SY → String} {WY : SY → va_W} (hM : TI l yX10_writePage cX10_writePage 5 (some .int) { frames := 7, cells := 1, slots := 6, locals := 104 } [.ref o, .int z1] G W post W1 py EY WY) (hE : ∀ u, py u → EY u = eNSE) : WX l yL_writePage cL_writePage 4 [(0, 9, 12, 69)] { frames := 8, cells := 1, slots := 6, locals := 134 } [.ref o, .int z1, .ref ol] G ((ol, LC G f0) :: W) (wP (fun _ => 1) post py) (wW G ol f0 W1 WY) := by
  refine jw_i (own := RL) (by decide) rfl (Nat.le_of_ble_eq_true rfl) (fun x hl hC hR => ?_)
  subst hl
  refine J_aload_n hC dL_writePage_0 2 rfl rfl ?_
  refine J_iconst (v := nI 0) hC dL_writePage_1 rfl ?_
  refine J_aload_n hC dL_writePage_2 0 rfl rfl ?_
  refine J_iload_n hC dL_writePage_3 1 rfl rfl ?_
  refine J_callTiC hC hR dL_writePage_4 wl_L_124 yi_X10_writePage (consT_i (ol, LC G f0) hM) rfl rfl 1 10 h0 rfl ⟨Nat.le_of_ble_eq_true rfl, Nat.le_of_ble_eq_true rfl⟩ (Nat.le_of_ble_eq_true rfl) (Nat.le_of_ble_eq_true rfl) (Nat.le_of_ble_eq_true rfl) (fun u9 q9 hp => ?_) (fun r9 u9 h9 => ?_)
  · have e9 := hE u9 hp
    refine ⟨12, by rw [e9]; exact catch1 hC hR rfl (by decide) (by decide) wk_L_69 (by decide), ?_⟩
    refine J_astore_n hC [(3, .ref q9), (0, .ref o), (1, .int z1), (2, .ref ol)] dL_writePage_12 rfl (by decide) rfl ?_
    refine J_iconst (v := 1) hC dL_writePage_13 rfl ?_
    exact J_iretW hC hR dL_writePage_14 (Sum.inr u9) ⟨hp, rfl⟩ rfl (Nat.le_of_ble_eq_true rfl) (Nat.le_of_ble_eq_true rfl)
  · refine J_i2l (v := r9.toInt64) hC dL_writePage_7 rfl ?_
    refine J_last (i := 0) (ws' := (ol, LC G (vp_updL f0 0 r9.toInt64)) :: W1 u9) hC dL_writePage_8 0 rfl (by decide) (by decide) rfl ?_
    refine J_goto (tgt := 15) hC dL_writePage_9 (by decide) ?_
    refine J_iconst (v := 0) hC dL_writePage_15 rfl ?_
    exact J_iretW hC hR dL_writePage_16 (Sum.inl (r9, u9)) ⟨rfl, h9⟩ rfl (Nat.le_of_ble_eq_true rfl) (Nat.le_of_ble_eq_true rfl)

set_option maxRecDepth 100000 in
set_option maxHeartbeats 4000000 in
theorem w_outputByte {S SY : Type} (l : Launch) (G : gT) (W : va_W) (o ol : Nat) (fs : List Value) (h0 : W[0]? = some (o, .inr (10, fs))) (z1 : Int32) (f0 : Nat → Int64) {post : Int32 → S → Prop} {W1 : S → va_W} {py : SY → Prop} {EY : SY → String} {WY : SY → va_W} (hM : TI l yX10_outputByte cX10_outputByte 2 (some .int) { frames := 7, cells := 1, slots := 6, locals := 110 } [.ref o, .int z1] G W post W1 py EY WY) (hE : ∀ u, py u → EY u = eNSE) : WX l yL_outputByte cL_outputByte 4 [(0, 9, 12, 69)] { frames := 8, cells := 1, slots := 6, locals := 137 } [.ref o, .int z1, .ref ol] G ((ol, LC G f0) :: W) (wP (fun _ => 1) post py) (wW G ol f0 W1 WY) := by
  refine jw_i (own := RL) (by decide) rfl (Nat.le_of_ble_eq_true rfl) (fun x hl hC hR => ?_)
  subst hl
  refine J_aload_n hC dL_outputByte_0 2 rfl rfl ?_
  refine J_iconst (v := nI 0) hC dL_outputByte_1 rfl ?_
  refine J_aload_n hC dL_outputByte_2 0 rfl rfl ?_
  refine J_iload_n hC dL_outputByte_3 1 rfl rfl ?_
  refine J_callTiC hC hR dL_outputByte_4 wl_L_127 yi_X10_outputByte (consT_i (ol, LC G f0) hM) rfl rfl 1 10 h0 rfl ⟨Nat.le_of_ble_eq_true rfl, Nat.le_of_ble_eq_true rfl⟩ (Nat.le_of_ble_eq_true rfl) (Nat.le_of_ble_eq_true rfl) (Nat.le_of_ble_eq_true rfl) (fun u9 q9 hp => ?_) (fun r9 u9 h9 => ?_)
  · have e9 := hE u9 hp
    refine ⟨12, by rw [e9]; exact catch1 hC hR rfl (by decide) (by decide) wk_L_69 (by decide), ?_⟩
    refine J_astore_n hC [(3, .ref q9), (0, .ref o), (1, .int z1), (2, .ref ol)] dL_outputByte_12 rfl (by decide) rfl ?_
    refine J_iconst (v := 1) hC dL_outputByte_13 rfl ?_
    exact J_iretW hC hR dL_outputByte_14 (Sum.inr u9) ⟨hp, rfl⟩ rfl (Nat.le_of_ble_eq_true rfl) (Nat.le_of_ble_eq_true rfl)
  · refine J_i2l (v := r9.toInt64) hC dL_outputByte_7 rfl ?_
    refine J_last (i := 0) (ws' := (ol, LC G (vp_updL f0 0 r9.toInt64)) :: W1 u9) hC dL_outputByte_8 0 rfl (by decide) (by decide) rfl ?_
    refine J_goto (tgt := 15) hC dL_outputByte_9 (by decide) ?_
    refine J_iconst (v := 0) hC dL_outputByte_15 rfl ?_
    exact J_iretW hC hR dL_outputByte_16 (Sum.inl (r9, u9)) ⟨rfl, h9⟩ rfl (Nat.le_of_ble_eq_true rfl) (Nat.le_of_ble_eq_true rfl)

set_option maxRecDepth 100000 in
set_option maxHeartbeats 4000000 in
theorem w_save {S SY : Type} (l : Launch) (G : gT) (W : va_W) (o ol : Nat) (fs : List Value) (h0 : W[0]? = some (o, .inr (10, fs))) (z1 : Int32) (f0 : Nat → Int64) {post : Int32 → S → Prop} {W1 : S → va_W} {py : SY → Prop} {EY : SY → String} {WY : SY → va_W} (hM : TI l yX10_save cX10_save 2 (some .int) { frames := 7, cells := 1, slots := 6, locals := 110 } [.ref o, .int z1] G W post W1 py EY WY) (hE : ∀ u, py u → EY u = eIOOB) : WX l yL_save cL_save 4 [(0, 9, 12, 28)] { frames := 8, cells := 1, slots := 6, locals := 137 } [.ref o, .int z1, .ref ol] G ((ol, LC G f0) :: W) (wP (fun _ => 1) post py) (wW G ol f0 W1 WY) := by
  refine jw_i (own := RL) (by decide) rfl (Nat.le_of_ble_eq_true rfl) (fun x hl hC hR => ?_)
  subst hl
  refine J_aload_n hC dL_save_0 2 rfl rfl ?_
  refine J_iconst (v := nI 0) hC dL_save_1 rfl ?_
  refine J_aload_n hC dL_save_2 0 rfl rfl ?_
  refine J_iload_n hC dL_save_3 1 rfl rfl ?_
  refine J_callTiC hC hR dL_save_4 wl_L_130 yi_X10_save (consT_i (ol, LC G f0) hM) rfl rfl 1 10 h0 rfl ⟨Nat.le_of_ble_eq_true rfl, Nat.le_of_ble_eq_true rfl⟩ (Nat.le_of_ble_eq_true rfl) (Nat.le_of_ble_eq_true rfl) (Nat.le_of_ble_eq_true rfl) (fun u9 q9 hp => ?_) (fun r9 u9 h9 => ?_)
  · have e9 := hE u9 hp
    refine ⟨12, by rw [e9]; exact catch1 hC hR rfl (by decide) (by decide) wk_L_28 (by decide), ?_⟩
    refine J_astore_n hC [(3, .ref q9), (0, .ref o), (1, .int z1), (2, .ref ol)] dL_save_12 rfl (by decide) rfl ?_
    refine J_iconst (v := 1) hC dL_save_13 rfl ?_
    exact J_iretW hC hR dL_save_14 (Sum.inr u9) ⟨hp, rfl⟩ rfl (Nat.le_of_ble_eq_true rfl) (Nat.le_of_ble_eq_true rfl)
  · refine J_i2l (v := r9.toInt64) hC dL_save_7 rfl ?_
    refine J_last (i := 0) (ws' := (ol, LC G (vp_updL f0 0 r9.toInt64)) :: W1 u9) hC dL_save_8 0 rfl (by decide) (by decide) rfl ?_
    refine J_goto (tgt := 15) hC dL_save_9 (by decide) ?_
    refine J_iconst (v := 0) hC dL_save_15 rfl ?_
    exact J_iretW hC hR dL_save_16 (Sum.inl (r9, u9)) ⟨rfl, h9⟩ rfl (Nat.le_of_ble_eq_true rfl) (Nat.le_of_ble_eq_true rfl)

set_option maxRecDepth 100000 in
set_option maxHeartbeats 4000000 in
theorem w_restore {S SY : Type} (l : Launch) (G : gT) (W : va_W) (o ol : Nat) (fs : List Value) (h0 : W[0]? = some (o, .inr (10, fs))) (z1 : Int32) (f0 : Nat → Int64) {post : Int32 → S → Prop} {W1 : S → va_W} {py : SY → Prop} {EY : SY → String} {WY : SY → va_W} (hM : TI l yX10_restore cX10_restore 2 (some .int) { frames := 7, cells := 2, slots := 12, locals := 110 } [.ref o, .int z1] G W post W1 py EY WY) (hE : ∀ u, py u → EY u = eIOOB ∨ EY u = eISE) : WX l yL_restore cL_restore 4 [(0, 9, 12, 28), (0, 9, 15, 13)] { frames := 8, cells := 2, slots := 12, locals := 137 } [.ref o, .int z1, .ref ol] G ((ol, LC G f0) :: W) (wP (fun u => if EY u = eIOOB then 1 else 2) post py) (wW G ol f0 W1 WY) := by
  refine jw_i (own := RL) (by decide) rfl (Nat.le_of_ble_eq_true rfl) (fun x hl hC hR => ?_)
  subst hl
  refine J_aload_n hC dL_restore_0 2 rfl rfl ?_
  refine J_iconst (v := nI 0) hC dL_restore_1 rfl ?_
  refine J_aload_n hC dL_restore_2 0 rfl rfl ?_
  refine J_iload_n hC dL_restore_3 1 rfl rfl ?_
  refine J_callTiC hC hR dL_restore_4 wl_L_133 yi_X10_restore (consT_i (ol, LC G f0) hM) rfl rfl 1 10 h0 rfl ⟨Nat.le_of_ble_eq_true rfl, Nat.le_of_ble_eq_true rfl⟩ (Nat.le_of_ble_eq_true rfl) (Nat.le_of_ble_eq_true rfl) (Nat.le_of_ble_eq_true rfl) (fun u9 q9 hp => ?_) (fun r9 u9 h9 => ?_)
  · rcases hE u9 hp with e9 | e9
    · refine ⟨12, by rw [e9]; exact catch1 hC hR rfl (by decide) (by decide) wk_L_28 (by decide), ?_⟩
      refine J_astore_n hC [(3, .ref q9), (0, .ref o), (1, .int z1), (2, .ref ol)] dL_restore_12 rfl (by decide) rfl ?_
      refine J_iconst (v := 1) hC dL_restore_13 rfl ?_
      exact J_iretW hC hR dL_restore_14 (Sum.inr u9) ⟨hp, (if_pos e9).symm⟩ rfl (Nat.le_of_ble_eq_true rfl) (Nat.le_of_ble_eq_true rfl)
    · refine ⟨15, by rw [e9]; exact catch2 hC hR rfl (by decide) wk_L_28 (by decide) (by decide) (by decide) wk_L_13 (by decide), ?_⟩
      refine J_astore_n hC [(3, .ref q9), (0, .ref o), (1, .int z1), (2, .ref ol)] dL_restore_15 rfl (by decide) rfl ?_
      refine J_iconst (v := 2) hC dL_restore_16 rfl ?_
      exact J_iretW hC hR dL_restore_17 (Sum.inr u9) ⟨hp, (if_neg (by rw [e9]; decide)).symm⟩ rfl (Nat.le_of_ble_eq_true rfl) (Nat.le_of_ble_eq_true rfl)
  · refine J_i2l (v := r9.toInt64) hC dL_restore_7 rfl ?_
    refine J_last (i := 0) (ws' := (ol, LC G (vp_updL f0 0 r9.toInt64)) :: W1 u9) hC dL_restore_8 0 rfl (by decide) (by decide) rfl ?_
    refine J_goto (tgt := 18) hC dL_restore_9 (by decide) ?_
    refine J_iconst (v := 0) hC dL_restore_18 rfl ?_
    exact J_iretW hC hR dL_restore_19 (Sum.inl (r9, u9)) ⟨rfl, h9⟩ rfl (Nat.le_of_ble_eq_true rfl) (Nat.le_of_ble_eq_true rfl)

set_option maxRecDepth 100000 in
set_option maxHeartbeats 4000000 in
theorem w_undo {S SY : Type} (l : Launch) (G : gT) (W : va_W) (o ol : Nat) (fs : List Value) (h0 : W[0]? = some (o, .inr (10, fs))) (f0 : Nat → Int64) {post : Int32 → S → Prop} {W1 : S → va_W} {py : SY → Prop} {EY : SY → String} {WY : SY → va_W} (hM : TI l yX10_undo cX10_undo 1 (some .int) { frames := 6, cells := 1, slots := 6, locals := 100 } [.ref o] G W post W1 py EY WY) (hE : ∀ u, py u → EY u = eISE) : WX l yL_undo cL_undo 3 [(0, 8, 11, 13)] { frames := 7, cells := 1, slots := 6, locals := 126 } [.ref o, .ref ol] G ((ol, LC G f0) :: W) (wP (fun _ => 1) post py) (wW G ol f0 W1 WY) := by
  refine jw_i (own := RL) (by decide) rfl (Nat.le_of_ble_eq_true rfl) (fun x hl hC hR => ?_)
  subst hl
  refine J_aload_n hC dL_undo_0 1 rfl rfl ?_
  refine J_iconst (v := nI 0) hC dL_undo_1 rfl ?_
  refine J_aload_n hC dL_undo_2 0 rfl rfl ?_
  refine J_callTiC hC hR dL_undo_3 wl_L_136 yi_X10_undo (consT_i (ol, LC G f0) hM) rfl rfl 1 10 h0 rfl ⟨Nat.le_of_ble_eq_true rfl, Nat.le_of_ble_eq_true rfl⟩ (Nat.le_of_ble_eq_true rfl) (Nat.le_of_ble_eq_true rfl) (Nat.le_of_ble_eq_true rfl) (fun u9 q9 hp => ?_) (fun r9 u9 h9 => ?_)
  · have e9 := hE u9 hp
    refine ⟨11, by rw [e9]; exact catch1 hC hR rfl (by decide) (by decide) wk_L_13 (by decide), ?_⟩
    refine J_astore_n hC [(2, .ref q9), (0, .ref o), (1, .ref ol)] dL_undo_11 rfl (by decide) rfl ?_
    refine J_iconst (v := 1) hC dL_undo_12 rfl ?_
    exact J_iretW hC hR dL_undo_13 (Sum.inr u9) ⟨hp, rfl⟩ rfl (Nat.le_of_ble_eq_true rfl) (Nat.le_of_ble_eq_true rfl)
  · refine J_i2l (v := r9.toInt64) hC dL_undo_6 rfl ?_
    refine J_last (i := 0) (ws' := (ol, LC G (vp_updL f0 0 r9.toInt64)) :: W1 u9) hC dL_undo_7 0 rfl (by decide) (by decide) rfl ?_
    refine J_goto (tgt := 14) hC dL_undo_8 (by decide) ?_
    refine J_iconst (v := 0) hC dL_undo_14 rfl ?_
    exact J_iretW hC hR dL_undo_15 (Sum.inl (r9, u9)) ⟨rfl, h9⟩ rfl (Nat.le_of_ble_eq_true rfl) (Nat.le_of_ble_eq_true rfl)

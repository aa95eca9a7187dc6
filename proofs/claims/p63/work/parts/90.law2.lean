/-! THE HAND: agrees -/
/-- a call of a method that might throw, but doesn't here -/
theorem J_callT0 {S SY : Type} {x : JX} {G : gT} {R : Room} {cc : ByteArray} {w0 : Cond} {own : String} {nL : Nat} {ws : va_W} {k n : Nat} {lv : List (Nat × Value)} {st rest : List Value} {pc : Nat} {C : String} {idx maxLY na : Nat} {y : MethodName} {ccY : ByteArray} {ret : Option FieldType} {rmY : Room} {As : List Value} {b : Nat}
    {py : SY → Prop} {EY : SY → String} {WY : SY → va_W} {post : Int32 → S → Prop} {W1 : S → va_W} {T : u_T} {N : Nat} {fs : List Value} (hC : JC x G R cc w0 own nL) (hxT : xT (js x)) (hd : decode cc pc = .ok (.invokevirtual idx, 3)) (hl : Cond.methodLink own idx y ∈ GW) (hY : YV y C ccY maxLY ret na)
    (hM : TI (jl x) y ccY maxLY ret rmY (.ref b :: As) G ws post W1 py EY WY) (hpy : ∀ u, ¬ py u)
    (hst : st = As.reverse ++ .ref b :: rest) (hna : As.length = na) (q ci : Nat) (hq : ws[q]? = some (b, .inr (ci, fs))) (hc : vwCl[ci]? = some (C, T, N))
    (hR : rmY.frames + 1 ≤ R.frames ∧ 8 + (maxLY + 11) + rmY.locals ≤ R.locals) (hcat : (rest.map fun v => v.category).sum ≤ 8) (hk : k + rmY.cells ≤ R.cells) (hn : n + rmY.slots ≤ R.slots)
    (kk : ∀ (r : Int32) (u : S), post r u → J x G (W1 u) (k + rmY.cells) (n + rmY.slots) lv (.int r :: rest) (pc + 3)) : J x G ws k n lv st pc := by
  intro H locs ls hP hD hS hL
  have hK := hC.2.2.2.2.2.1
  have hRR : jR x = R := hC.2.2.2.2.2.2.2.1
  have hE := hC.2.2.2.2.2.2.2.2.2
  have h9 := hC.2.2.2.2.2.2.2.2.1
  have hF := va_A_in hD hS hC.2.2.2.2.2.2.1
  refine vx_calli (vx_runV (As := As) (rest := rest) ⟨hC.1, hC.2.1, hC.2.2.1, hC.2.2.2.1, hC.2.2.2.2.1⟩ (hM H.size) (cwV na hC.2.2.2.2.1 (gwV hl hY.1 hY.2.1 hY.2.2.1 hY.2.2.2.1) rfl rfl rfl hY.2.2.2.2 (by rw [hRR]; exact hR)) ⟨gX_blind _ _ _ _, va_recv hK hP hc hq, fun U hU hW => ⟨rfl, ⟨by rw [hU], by rw [hU]; exact hP, va_K.moved hW.alike hK, hD.weaken (fun _ _ _ _ => trivial), hE.step hW (by rw [hU]; intro q hq hn; rw [h9] at hS; exact hS.2.1 q hq hn) hF⟩, hxT.warm hW⟩⟩ rfl hna (hL.1.trans hC.2.2.1) hst (lv_room hcat) hd (by rw [hRR]; exact ⟨hk, hn⟩)) hS (fun q _ h => hF q h) hF (fun q _ h => hF q h)
    (fun E ce q9 u t H1 locs1 ht hvm hp hB hz hk1 hS1 hce hcv hcl => absurd hp (hpy u)) (fun r u t H1 locs1 ht hvm hw hB hz hk1 hS1 => ?_)
  obtain ⟨hP1, hK1, hD1⟩ := hB
  rw [ht] at hP1
  exact kk r u hw H1 locs1 ls hP1 (hD1.weaken (fun _ _ _ h => hF _ h)) hS1 hL
theorem J_kn {x : JX} {G : gT} {ws : va_W} {k k' n n' : Nat} {lv : List (Nat × Value)} {st : List Value} {pc : Nat} (hk : k = k') (hn : n = n') (kk : J x G ws k' n' lv st pc) : J x G ws k n lv st pc := by subst hk; subst hn; exact kk
/-- each forecast is found at its own place -/
def DB (n : Nat) (S : CT) : Prop := ∀ k, k < n → s_placeOf S (S 10 k) (S 11 k) n = nI k
theorem hd_getA {G : gT} {h r : Nat → Nat} {n mc k : Nat} {S : CT} {V : va_W} (hk : k < n) : (hdW G h r n mc S ++ V)[11 + k]? = some (r k, .inl (gc G 0, 5, .inl (rwf S k))) := by
  have hl : (hdW G h r n mc S).length = 11 + n := by
    show ((hdF G h r n mc S) ++ (List.range n).map _).length = _
    rw [List.length_append, List.length_map, List.length_range]
    rfl
  rw [List.getElem?_append_left (by omega)]
  exact hd_get hk
theorem hd_of {G : gT} {h r : Nat → Nat} {n mc : Nat} {S : CT} {u : Nat → Nat → Nat} {z : OS} : (hdW G h r n mc S ++ ofW G u z)[11 + n]? = some (u 4 0, .inr (10, [.ref (oR u 0), .ref (oR u 1), .ref (u 0 0), .ref (oR u 2), .ref (oR u 3), .ref (oR u 4), .ref (oR u 5), .int (zc z), .int (zp z)])) := hd_gb (V := (ofW G u z).tail)
section LO
variable {S SX : Type} {l : Launch} {y : MethodName} {cc : ByteArray} {maxL : Nat} {ret : Option FieldType} {rm : Room} {av : List Value} {G : gT} {u : Nat → Nat → Nat} {z : OS}
theorem pm_lo {α : Type} {V W A B : List α} (h : W.Perm (A ++ B)) : (V ++ W).Perm (A ++ (B ++ V)) := by
  refine permS (fun e => ?_)
  have h1 := pm_sum h e
  simp only [List.map_append, List.sum_append] at h1 ⊢
  omega
theorem lo_i (V : va_W) {post : Int32 → S → Prop} (h : MI l y cc maxL ret rm av G (oS G u z) post (fun _ => oS G u z)) : MI l y cc maxL ret rm av G (V ++ ofW G u z) post (fun _ => V ++ ofW G u z) := fr_i h (pm_lo (pf_o G u z)) (fun _ => (pm_lo (pf_o G u z)).symm)
theorem lt_i (V : va_W) {post : Int32 → S → Prop} {z1 : S → OS} {z2 : SX → OS} {px : SX → Prop} {EX : SX → String} (h : TI l y cc maxL ret rm av G (ofW G u z) post (fun w => ofW G u (z1 w)) px EX (fun w => ofW G u (z2 w))) : TI l y cc maxL ret rm av G (V ++ ofW G u z) post (fun w => V ++ ofW G u (z1 w)) px EX (fun w => V ++ ofW G u (z2 w)) := frt_i h List.perm_append_comm (fun _ => List.perm_append_comm) (fun _ => List.perm_append_comm)
end LO
set_option maxHeartbeats 4000000 in
set_option maxRecDepth 100000 in
theorem c_X11_agrees (l : Launch) (G : gT) (h r : Nat → Nat) (n mc : Nat) (u : Nat → Nat → Nat) (z : OS) (hS : HV n mc (zS z)) (hI : CI (zS z)) (hDB : DB n (zS z)) (hst : l.stackTraces = false) : TI l yX11_agrees cX11_agrees 4 (some .boolean) { frames := 9, cells := 300, slots := 1800, locals := 170 } [.ref (h 0), .ref (u 4 0)] G (hdW G h r n mc (zS z) ++ ofW G u z) (fun r9 (_ : Unit) => r9 = 1) (fun _ => hdW G h r n mc (zS z) ++ ofW G u z) (fun (_ : Unit) => False) (fun _ => "") (fun _ => []) := by
  refine jt_i (own := RX11) hst (by decide) rfl (Nat.le_of_ble_eq_true rfl) (fun x hl hC hR hN => ?_)
  subst hl
  have hn := hS.1.2
  have hmc := hS.2.1.2
  have evc : vcO (zS z) = 3 := hS.vc
  have ebc : bcO (zS z) = n := hS.bc
  have emc : mcO (zS z) = mc := hS.mc
  refine J_aload_n hC dX11_agrees_0 1 rfl rfl ?_
  refine J_callVi hC dX11_agrees_1 wl_X11_119 yi_X10_day (lo_i (hdW G h r n mc (zS z)) (c_X10_day _ G (u 4 0) (oR u) (u 0) (zS z) (zc z) (zp z) hI)) rfl rfl (11 + n) 10 hd_of rfl ⟨Nat.le_of_ble_eq_true rfl, Nat.le_of_ble_eq_true rfl⟩ (Nat.le_of_ble_eq_true rfl) (Nat.le_of_ble_eq_true rfl) (Nat.le_of_ble_eq_true rfl) (fun r9 u9 h9 => ?_)
  subst h9
  refine J_aload_n hC dX11_agrees_4 0 rfl rfl ?_
  refine J_get (v := .int ((zS z) 16 0)) hC wu_X11 rfl dX11_agrees_5 0 11 (by decide) wf_X11_70 rfl rfl ?_
  refine J_ic_ne (tgt := 90) hC dX11_agrees_8 (by decide) (fun c => absurd c (not_not_intro rfl)) (fun _ => ?_)
  refine J_aload_n hC dX11_agrees_11 1 rfl rfl ?_
  refine J_callVi hC dX11_agrees_12 wl_X11_124 yi_X10_seed (lo_i (hdW G h r n mc (zS z)) (c_X10_seed _ G (u 4 0) (oR u) (u 0) (zS z) (zc z) (zp z) hI)) rfl rfl (11 + n) 10 hd_of rfl ⟨Nat.le_of_ble_eq_true rfl, Nat.le_of_ble_eq_true rfl⟩ (Nat.le_of_ble_eq_true rfl) (Nat.le_of_ble_eq_true rfl) (Nat.le_of_ble_eq_true rfl) (fun r9 u9 h9 => ?_)
  subst h9
  refine J_aload_n hC dX11_agrees_15 0 rfl rfl ?_
  refine J_get (v := .int ((zS z) 16 11)) hC wu_X11 rfl dX11_agrees_16 0 10 (by decide) wf_X11_48 rfl rfl ?_
  refine J_ic_ne (tgt := 90) hC dX11_agrees_19 (by decide) (fun c => absurd c (not_not_intro rfl)) (fun _ => ?_)
  refine J_aload_n hC dX11_agrees_22 1 rfl rfl ?_
  refine J_callVi hC dX11_agrees_23 wl_X11_126 yi_X10_coins (lo_i (hdW G h r n mc (zS z)) (c_X10_coins _ G (u 4 0) (oR u) (u 0) (zS z) (zc z) (zp z) hI)) rfl rfl (11 + n) 10 hd_of rfl ⟨Nat.le_of_ble_eq_true rfl, Nat.le_of_ble_eq_true rfl⟩ (Nat.le_of_ble_eq_true rfl) (Nat.le_of_ble_eq_true rfl) (Nat.le_of_ble_eq_true rfl) (fun r9 u9 h9 => ?_)
  subst h9
  refine J_aload_n hC dX11_agrees_26 0 rfl rfl ?_
  refine J_get (v := .int ((zS z) 16 1)) hC wu_X11 rfl dX11_agrees_27 0 12 (by decide) wf_X11_82 rfl rfl ?_
  refine J_ic_ne (tgt := 90) hC dX11_agrees_30 (by decide) (fun c => absurd c (not_not_intro rfl)) (fun _ => ?_)
  refine J_aload_n hC dX11_agrees_33 1 rfl rfl ?_
  refine J_callVi hC dX11_agrees_34 wl_X11_128 yi_X10_hits (lo_i (hdW G h r n mc (zS z)) (c_X10_hits _ G (u 4 0) (oR u) (u 0) (zS z) (zc z) (zp z) hI)) rfl rfl (11 + n) 10 hd_of rfl ⟨Nat.le_of_ble_eq_true rfl, Nat.le_of_ble_eq_true rfl⟩ (Nat.le_of_ble_eq_true rfl) (Nat.le_of_ble_eq_true rfl) (Nat.le_of_ble_eq_true rfl) (fun r9 u9 h9 => ?_)
  subst h9
  refine J_aload_n hC dX11_agrees_37 0 rfl rfl ?_
  refine J_get (v := .int ((zS z) 16 2)) hC wu_X11 rfl dX11_agrees_38 0 13 (by decide) wf_X11_92 rfl rfl ?_
  refine J_ic_ne (tgt := 90) hC dX11_agrees_41 (by decide) (fun c => absurd c (not_not_intro rfl)) (fun _ => ?_)
  refine J_aload_n hC dX11_agrees_44 1 rfl rfl ?_
  refine J_callVi hC dX11_agrees_45 wl_X11_130 yi_X10_regrets (lo_i (hdW G h r n mc (zS z)) (c_X10_regrets _ G (u 4 0) (oR u) (u 0) (zS z) (zc z) (zp z) hI)) rfl rfl (11 + n) 10 hd_of rfl ⟨Nat.le_of_ble_eq_true rfl, Nat.le_of_ble_eq_true rfl⟩ (Nat.le_of_ble_eq_true rfl) (Nat.le_of_ble_eq_true rfl) (Nat.le_of_ble_eq_true rfl) (fun r9 u9 h9 => ?_)
  subst h9
  refine J_aload_n hC dX11_agrees_48 0 rfl rfl ?_
  refine J_get (v := .int ((zS z) 16 3)) hC wu_X11 rfl dX11_agrees_49 0 14 (by decide) wf_X11_67 rfl rfl ?_
  refine J_ic_ne (tgt := 90) hC dX11_agrees_52 (by decide) (fun c => absurd c (not_not_intro rfl)) (fun _ => ?_)
  refine J_aload_n hC dX11_agrees_55 1 rfl rfl ?_
  refine J_callVi hC dX11_agrees_56 wl_X11_132 yi_X10_retractions (lo_i (hdW G h r n mc (zS z)) (c_X10_retractions _ G (u 4 0) (oR u) (u 0) (zS z) (zc z) (zp z) hI)) rfl rfl (11 + n) 10 hd_of rfl ⟨Nat.le_of_ble_eq_true rfl, Nat.le_of_ble_eq_true rfl⟩ (Nat.le_of_ble_eq_true rfl) (Nat.le_of_ble_eq_true rfl) (Nat.le_of_ble_eq_true rfl) (fun r9 u9 h9 => ?_)
  subst h9
  refine J_aload_n hC dX11_agrees_59 0 rfl rfl ?_
  refine J_get (v := .int ((zS z) 16 4)) hC wu_X11 rfl dX11_agrees_60 0 15 (by decide) wf_X11_105 rfl rfl ?_
  refine J_ic_ne (tgt := 90) hC dX11_agrees_63 (by decide) (fun c => absurd c (not_not_intro rfl)) (fun _ => ?_)
  refine J_aload_n hC dX11_agrees_66 1 rfl rfl ?_
  refine J_callVi hC dX11_agrees_67 wl_X11_135 yi_X10_forecastCount (lo_i (hdW G h r n mc (zS z)) (c_X10_forecastCount _ G (u 4 0) (oR u) (u 0) (zS z) (zc z) (zp z) hI)) rfl rfl (11 + n) 10 hd_of rfl ⟨Nat.le_of_ble_eq_true rfl, Nat.le_of_ble_eq_true rfl⟩ (Nat.le_of_ble_eq_true rfl) (Nat.le_of_ble_eq_true rfl) (Nat.le_of_ble_eq_true rfl) (fun r9 u9 h9 => ?_)
  subst h9
  refine J_aload_n hC dX11_agrees_70 0 rfl rfl ?_
  refine J_get (v := .ref (h 9)) hC wu_X11 rfl dX11_agrees_71 0 8 (by decide) wf_X11_35 rfl rfl ?_
  refine J_alen hC dX11_agrees_74 9 rfl (t := 4) rfl ?_
  dsimp only
  refine J_ic_ne (tgt := 90) hC dX11_agrees_75 (by decide) (fun c => absurd c (not_not_intro hS.1.1)) (fun _ => ?_)
  refine J_aload_n hC dX11_agrees_78 1 rfl rfl ?_
  refine J_callVi hC dX11_agrees_79 wl_X11_138 yi_X10_regretCount (lo_i (hdW G h r n mc (zS z)) (c_X10_regretCount _ G (u 4 0) (oR u) (u 0) (zS z) (zc z) (zp z) hI)) rfl rfl (11 + n) 10 hd_of rfl ⟨Nat.le_of_ble_eq_true rfl, Nat.le_of_ble_eq_true rfl⟩ (Nat.le_of_ble_eq_true rfl) (Nat.le_of_ble_eq_true rfl) (Nat.le_of_ble_eq_true rfl) (fun r9 u9 h9 => ?_)
  subst h9
  refine J_aload_n hC dX11_agrees_82 0 rfl rfl ?_
  refine J_get (v := .ref (h 10)) hC wu_X11 rfl dX11_agrees_83 0 9 (by decide) wf_X11_39 rfl rfl ?_
  refine J_alen hC dX11_agrees_86 10 rfl (t := 0) rfl ?_
  dsimp only
  refine J_ic_eq (tgt := 92) hC dX11_agrees_87 (by decide) (fun _ => ?_) (fun c => absurd hS.2.1.1 c)
  refine J_iconst (v := 0) hC dX11_agrees_92 rfl ?_
  refine J_istore_n hC [(2, .int 0), (0, .ref (h 0)), (1, .ref (u 4 0))] dX11_agrees_93 rfl (by decide) rfl ?_
  have p273 : ∀ (f i : Nat), mc - i < f → i ≤ mc → J x G (hdW G h r n mc (zS z) ++ ofW G u z) (12 + 9 * n + i) (72 + 54 * n + 6 * i) [(2, .int (nI i)), (0, .ref (h 0)), (1, .ref (u 4 0))] [] 273 := by
    intro f
    induction f with
    | zero => exact fun _ h => absurd h (Nat.not_lt_zero _)
    | succ f ih =>
      intro i hf hi
      refine J_iload_n hC dX11_agrees_273 0 rfl rfl ?_
      refine J_aload_n hC dX11_agrees_274 1 rfl rfl ?_
      refine J_get (v := .ref (h 10)) hC wu_X11 rfl dX11_agrees_275 0 9 (by decide) wf_X11_39 rfl rfl ?_
      refine J_alen hC dX11_agrees_278 10 rfl (t := 0) rfl ?_
      dsimp only
      refine J_ic_geN (a := i) (b := mc) (tgt := 304) hC dX11_agrees_279 (by decide) (by omega) (by omega) (fun c1 => ?_) (fun c1 => ?_)
      · refine J_iconst (v := 1) hC dX11_agrees_304 rfl ?_
        exact J_iretT hC hR dX11_agrees_305 rfl () rfl rfl (by show 12 + 9 * n + i ≤ 300; omega) (by show 72 + 54 * n + 6 * i ≤ 1800; omega)
      · refine J_aload_n hC dX11_agrees_282 2 rfl rfl ?_
        refine J_iload_n hC dX11_agrees_283 0 rfl rfl ?_
        refine J_callT0 hC hR.2.2.2.2.1 dX11_agrees_284 wl_X11_168 yi_X10_regretAt (lt_i (hdW G h r n mc (zS z)) (b_regretAt _ G u z (nI i) hI hst)) (fun _ h9 => h9 ⟨nI_pos (by omega), fun h8 => absurd h8 (by rw [hS.2.1.1, nI_sub1 (by omega)]; exact nI_nlt (by omega) (by omega))⟩) rfl rfl (11 + n) 10 hd_of rfl ⟨Nat.le_of_ble_eq_true rfl, Nat.le_of_ble_eq_true rfl⟩ (Nat.le_of_ble_eq_true rfl) (show 12 + 9 * n + i + 1 ≤ 300 by omega) (show 72 + 54 * n + 6 * i + 6 ≤ 1800 by omega) (fun r9 w9 h9 => ?_)
        obtain ⟨k1, k2, k3⟩ := h9
        have k4 := nI_ij (by omega) (by omega) k2
        subst k4
        subst k3
        refine J_aload_n hC dX11_agrees_287 1 rfl rfl ?_
        refine J_get (v := .ref (h 10)) hC wu_X11 rfl dX11_agrees_288 0 9 (by decide) wf_X11_39 rfl rfl ?_
        refine J_iload_n hC dX11_agrees_291 0 rfl rfl ?_
        refine J_iald (i := i) (v := zS z 15 i) hC dX11_agrees_292 10 rfl c1 (by omega) rfl ?_
        refine J_ic_eq (tgt := 298) hC dX11_agrees_293 (by decide) (fun _ => ?_) (fun c => absurd rfl c)
        refine J_iinc hC [(2, .int (nI (i + 1))), (0, .ref (h 0)), (1, .ref (u 4 0))] dX11_agrees_298 0 rfl (nI_inc _) (by decide) rfl ?_
        refine J_goto (tgt := 273) hC dX11_agrees_301 (by decide) ?_
        refine J_kn (by show 12 + 9 * n + i + 1 = 12 + 9 * n + (i + 1); omega) (by show 72 + 54 * n + 6 * i + 6 = 72 + 54 * n + 6 * (i + 1); omega) (ih (i + 1) (by omega) (by omega))
  have p165 : ∀ (f i : Nat), n - i < f → i ≤ n → J x G (hdW G h r n mc (zS z) ++ ofW G u z) (12 + 9 * i) (72 + 54 * i) [(2, .int (nI i)), (0, .ref (h 0)), (1, .ref (u 4 0))] [] 165 := by
    intro f
    induction f with
    | zero => exact fun _ h => absurd h (Nat.not_lt_zero _)
    | succ f ih =>
      intro i hf hi
      refine J_iload_n hC dX11_agrees_165 0 rfl rfl ?_
      refine J_aload_n hC dX11_agrees_166 1 rfl rfl ?_
      refine J_get (v := .ref (h 9)) hC wu_X11 rfl dX11_agrees_167 0 8 (by decide) wf_X11_35 rfl rfl ?_
      refine J_alen hC dX11_agrees_170 9 rfl (t := 4) rfl ?_
      dsimp only
      refine J_ic_geN (a := i) (b := n) (tgt := 271) hC dX11_agrees_171 (by decide) (by omega) (by omega) (fun c1 => ?_) (fun c1 => ?_)
      · obtain rfl : i = n := by omega
        refine J_iconst (v := 0) hC dX11_agrees_271 rfl ?_
        refine J_istore_n hC [(2, .int 0), (0, .ref (h 0)), (1, .ref (u 4 0))] dX11_agrees_272 rfl (by decide) rfl ?_
        exact J_kn (by omega) (by omega) (p273 _ 0 (Nat.lt_succ_self _) (Nat.zero_le _))
      · obtain ⟨vi, si, hvi, hsi, evi, esi⟩ := hS.2.2.2.1 i c1
        have hin : ¬ zS z 10 i < 0 ∧ zS z 10 i < nI (vcO (zS z)) := by rw [evi, evc]; exact in3 hvi
        have hpl := hDB i c1
        refine J_aload_n hC dX11_agrees_174 1 rfl rfl ?_
        refine J_get (v := .ref (h 9)) hC wu_X11 rfl dX11_agrees_175 0 8 (by decide) wf_X11_35 rfl rfl ?_
        refine J_iload_n hC dX11_agrees_178 0 rfl rfl ?_
        refine J_gald (b := r i) (i := i) hC dX11_agrees_179 9 rfl c1 (by omega) rfl ?_
        refine J_astore_n hC [(3, .ref (r i)), (2, .int (nI i)), (0, .ref (h 0)), (1, .ref (u 4 0))] dX11_agrees_180 rfl (by decide) rfl ?_
        refine J_aload_n hC dX11_agrees_181 3 rfl rfl ?_
        refine J_iload_n hC dX11_agrees_182 1 rfl rfl ?_
        refine J_callT0 hC hR.2.2.2.2.1 dX11_agrees_183 wl_X11_153 yi_X10_forecastAt (lt_i (hdW G h r n mc (zS z)) (b_forecastAt _ G u z (nI i) hI hst)) (fun _ h9 => h9 ⟨nI_pos (by omega), fun h8 => absurd h8 (by rw [hS.1.1, nI_sub1 (by omega)]; exact nI_nlt (by omega) (by omega))⟩) rfl rfl (11 + n) 10 hd_of rfl ⟨Nat.le_of_ble_eq_true rfl, Nat.le_of_ble_eq_true rfl⟩ (Nat.le_of_ble_eq_true rfl) (show 12 + 9 * i + 1 ≤ 300 by omega) (show 72 + 54 * i + 6 ≤ 1800 by omega) (fun r9 w9 h9 => ?_)
        obtain ⟨k1, k2, k3⟩ := h9
        have k4 := nI_ij (by omega) (by omega) k2
        subst k4
        subst k3
        refine J_bipush (v := 10) hC dX11_agrees_186 rfl ?_
        refine J_aload_n hC dX11_agrees_188 0 rfl rfl ?_
        refine J_iconst (v := 1) hC dX11_agrees_189 rfl ?_
        refine J_iald (i := 1) (v := zS z 11 i) hC dX11_agrees_190 (11 + i) (hd_getA c1) (by decide) (by decide) rfl ?_
        refine J_imul (v := 10 * zS z 11 i) hC dX11_agrees_191 rfl ?_
        refine J_aload_n hC dX11_agrees_192 0 rfl rfl ?_
        refine J_iconst (v := 0) hC dX11_agrees_193 rfl ?_
        refine J_iald (i := 0) (v := zS z 10 i) hC dX11_agrees_194 (11 + i) (hd_getA c1) (by decide) (by decide) rfl ?_
        refine J_iadd (v := 10 * zS z 11 i + zS z 10 i) hC dX11_agrees_195 rfl ?_
        refine J_ic_ne (tgt := 263) hC dX11_agrees_196 (by decide) (fun c => absurd c (not_not_intro rfl)) (fun _ => ?_)
        refine J_aload_n hC dX11_agrees_199 3 rfl rfl ?_
        refine J_aload_n hC dX11_agrees_200 0 rfl rfl ?_
        refine J_iconst (v := 0) hC dX11_agrees_201 rfl ?_
        refine J_iald (i := 0) (v := zS z 10 i) hC dX11_agrees_202 (11 + i) (hd_getA c1) (by decide) (by decide) rfl ?_
        refine J_aload_n hC dX11_agrees_203 0 rfl rfl ?_
        refine J_iconst (v := 1) hC dX11_agrees_204 rfl ?_
        refine J_iald (i := 1) (v := zS z 11 i) hC dX11_agrees_205 (11 + i) (hd_getA c1) (by decide) (by decide) rfl ?_
        refine J_callT0 hC hR.2.2.2.2.1 dX11_agrees_206 wl_X11_156 yi_X10_weatherOf (lt_i (hdW G h r n mc (zS z)) (b_weatherOf _ G u z (zS z 10 i) (zS z 11 i) hI hst)) (fun u9 h9 => h9.elim (fun h => h.2 hin) (fun h => nI_ne_m1 (k := i) (by omega) (hpl.symm.trans (ebc ▸ h.2.2)))) rfl rfl (11 + n) 10 hd_of rfl ⟨Nat.le_of_ble_eq_true rfl, Nat.le_of_ble_eq_true rfl⟩ (Nat.le_of_ble_eq_true rfl) (show 12 + 9 * i + 1 + 2 ≤ 300 by omega) (show 72 + 54 * i + 6 + 12 ≤ 1800 by omega) (fun r9 w9 h9 => ?_)
        obtain ⟨-, k1, k2, k3⟩ := h9
        rw [ebc] at k1 k2
        have k4 := nI_ij (by omega) (by omega) (hpl.symm.trans k2)
        subst k4
        subst k3
        refine J_aload_n hC dX11_agrees_209 0 rfl rfl ?_
        refine J_iconst (v := 2) hC dX11_agrees_210 rfl ?_
        refine J_iald (i := 2) (v := zS z 12 i) hC dX11_agrees_211 (11 + i) (hd_getA c1) (by decide) (by decide) rfl ?_
        refine J_ic_ne (tgt := 263) hC dX11_agrees_212 (by decide) (fun c => absurd c (not_not_intro rfl)) (fun _ => ?_)
        refine J_aload_n hC dX11_agrees_215 3 rfl rfl ?_
        refine J_aload_n hC dX11_agrees_216 0 rfl rfl ?_
        refine J_iconst (v := 0) hC dX11_agrees_217 rfl ?_
        refine J_iald (i := 0) (v := zS z 10 i) hC dX11_agrees_218 (11 + i) (hd_getA c1) (by decide) (by decide) rfl ?_
        refine J_aload_n hC dX11_agrees_219 0 rfl rfl ?_
        refine J_iconst (v := 1) hC dX11_agrees_220 rfl ?_
        refine J_iald (i := 1) (v := zS z 11 i) hC dX11_agrees_221 (11 + i) (hd_getA c1) (by decide) (by decide) rfl ?_
        refine J_callT0 hC hR.2.2.2.2.1 dX11_agrees_222 wl_X11_159 yi_X10_soldOf (lt_i (hdW G h r n mc (zS z)) (b_soldOf _ G u z (zS z 10 i) (zS z 11 i) hI hst)) (fun u9 h9 => h9.elim (fun h => h.2 hin) (fun h => nI_ne_m1 (k := i) (by omega) (hpl.symm.trans (ebc ▸ h.2.2)))) rfl rfl (11 + n) 10 hd_of rfl ⟨Nat.le_of_ble_eq_true rfl, Nat.le_of_ble_eq_true rfl⟩ (Nat.le_of_ble_eq_true rfl) (show 12 + 9 * i + 1 + 2 + 2 ≤ 300 by omega) (show 72 + 54 * i + 6 + 12 + 12 ≤ 1800 by omega) (fun r9 w9 h9 => ?_)
        obtain ⟨-, k1, k2, k3⟩ := h9
        rw [ebc] at k1 k2
        have k4 := nI_ij (by omega) (by omega) (hpl.symm.trans k2)
        subst k4
        subst k3
        refine J_aload_n hC dX11_agrees_225 0 rfl rfl ?_
        refine J_iconst (v := 3) hC dX11_agrees_226 rfl ?_
        refine J_iald (i := 3) (v := zS z 13 i) hC dX11_agrees_227 (11 + i) (hd_getA c1) (by decide) (by decide) rfl ?_
        refine J_ic_ne (tgt := 263) hC dX11_agrees_228 (by decide) (fun c => absurd c (not_not_intro rfl)) (fun _ => ?_)
        refine J_aload_n hC dX11_agrees_231 3 rfl rfl ?_
        refine J_aload_n hC dX11_agrees_232 0 rfl rfl ?_
        refine J_iconst (v := 0) hC dX11_agrees_233 rfl ?_
        refine J_iald (i := 0) (v := zS z 10 i) hC dX11_agrees_234 (11 + i) (hd_getA c1) (by decide) (by decide) rfl ?_
        refine J_aload_n hC dX11_agrees_235 0 rfl rfl ?_
        refine J_iconst (v := 1) hC dX11_agrees_236 rfl ?_
        refine J_iald (i := 1) (v := zS z 11 i) hC dX11_agrees_237 (11 + i) (hd_getA c1) (by decide) (by decide) rfl ?_
        refine J_callT0 hC hR.2.2.2.2.1 dX11_agrees_238 wl_X11_162 yi_X10_paidOf (lt_i (hdW G h r n mc (zS z)) (b_paidOf _ G u z (zS z 10 i) (zS z 11 i) hI hst)) (fun u9 h9 => h9.elim (fun h => h.2 hin) (fun h => nI_ne_m1 (k := i) (by omega) (hpl.symm.trans (ebc ▸ h.2.2)))) rfl rfl (11 + n) 10 hd_of rfl ⟨Nat.le_of_ble_eq_true rfl, Nat.le_of_ble_eq_true rfl⟩ (Nat.le_of_ble_eq_true rfl) (show 12 + 9 * i + 1 + 2 + 2 + 2 ≤ 300 by omega) (show 72 + 54 * i + 6 + 12 + 12 + 12 ≤ 1800 by omega) (fun r9 w9 h9 => ?_)
        obtain ⟨-, k1, k2, k3⟩ := h9
        rw [ebc] at k1 k2
        have k4 := nI_ij (by omega) (by omega) (hpl.symm.trans k2)
        subst k4
        subst k3
        refine J_aload_n hC dX11_agrees_241 0 rfl rfl ?_
        refine J_iconst (v := 4) hC dX11_agrees_242 rfl ?_
        refine J_iald (i := 4) (v := zS z 14 i) hC dX11_agrees_243 (11 + i) (hd_getA c1) (by decide) (by decide) rfl ?_
        refine J_ic_ne (tgt := 263) hC dX11_agrees_244 (by decide) (fun c => absurd c (not_not_intro rfl)) (fun _ => ?_)
        refine J_aload_n hC dX11_agrees_247 3 rfl rfl ?_
        refine J_aload_n hC dX11_agrees_248 0 rfl rfl ?_
        refine J_iconst (v := 0) hC dX11_agrees_249 rfl ?_
        refine J_iald (i := 0) (v := zS z 10 i) hC dX11_agrees_250 (11 + i) (hd_getA c1) (by decide) (by decide) rfl ?_
        refine J_aload_n hC dX11_agrees_251 0 rfl rfl ?_
        refine J_iconst (v := 1) hC dX11_agrees_252 rfl ?_
        refine J_iald (i := 1) (v := zS z 11 i) hC dX11_agrees_253 (11 + i) (hd_getA c1) (by decide) (by decide) rfl ?_
        refine J_callT0 hC hR.2.2.2.2.1 dX11_agrees_254 wl_X11_165 yi_X10_pageOf (lt_i (hdW G h r n mc (zS z)) (b_pageOf _ G u z (zS z 10 i) (zS z 11 i) hI hst)) (fun u9 h9 => h9.elim (fun h => h.2 hin) (fun h => nI_ne_m1 (k := i) (by omega) (hpl.symm.trans (ebc ▸ h.2.2)))) rfl rfl (11 + n) 10 hd_of rfl ⟨Nat.le_of_ble_eq_true rfl, Nat.le_of_ble_eq_true rfl⟩ (Nat.le_of_ble_eq_true rfl) (show 12 + 9 * i + 1 + 2 + 2 + 2 + 2 ≤ 300 by omega) (show 72 + 54 * i + 6 + 12 + 12 + 12 + 12 ≤ 1800 by omega) (fun r9 w9 h9 => ?_)
        obtain ⟨-, k1, k2, k3⟩ := h9
        rw [ebc] at k1 k2
        have k4 := nI_ij (by omega) (by omega) (hpl.symm.trans k2)
        subst k4
        subst k3
        refine J_iload_n hC dX11_agrees_257 1 rfl rfl ?_
        refine J_iconst (v := 4) hC dX11_agrees_258 rfl ?_
        refine J_idiv (v := nI i / 4) hC dX11_agrees_259 (by decide) rfl ?_
        refine J_ic_eq (tgt := 265) hC dX11_agrees_260 (by decide) (fun _ => ?_) (fun c => absurd rfl c)
        refine J_iinc hC [(2, .int (nI (i + 1))), (3, .ref (r i)), (0, .ref (h 0)), (1, .ref (u 4 0))] dX11_agrees_265 1 rfl (nI_inc _) (by decide) rfl ?_
        refine J_goto (tgt := 165) hC dX11_agrees_268 (by decide) ?_
        refine J_lv [0, 2, 3] rfl ?_
        refine J_kn (by show 12 + 9 * i + 1 + 2 + 2 + 2 + 2 = 12 + 9 * (i + 1); omega) (by show 72 + 54 * i + 6 + 12 + 12 + 12 + 12 = 72 + 54 * (i + 1); omega) (ih (i + 1) (by omega) (by omega))
  have p94 : ∀ (f i : Nat), 3 - i < f → i ≤ 3 → J x G (hdW G h r n mc (zS z) ++ ofW G u z) (4 * i) (24 * i) [(2, .int (nI i)), (0, .ref (h 0)), (1, .ref (u 4 0))] [] 94 := by
    intro f
    induction f with
    | zero => exact fun _ h => absurd h (Nat.not_lt_zero _)
    | succ f ih =>
      intro i hf hi
      refine J_iload_n hC dX11_agrees_94 0 rfl rfl ?_
      refine J_iconst (v := 3) hC dX11_agrees_95 rfl ?_
      refine J_ic_geN (a := i) (b := 3) (tgt := 163) hC dX11_agrees_96 (by decide) (by omega) (by decide) (fun c1 => ?_) (fun c1 => ?_)
      · obtain rfl : i = 3 := by omega
        refine J_iconst (v := 0) hC dX11_agrees_163 rfl ?_
        refine J_istore_n hC [(2, .int 0), (0, .ref (h 0)), (1, .ref (u 4 0))] dX11_agrees_164 rfl (by decide) rfl ?_
        exact J_kn (by omega) (by omega) (p165 _ 0 (Nat.lt_succ_self _) (Nat.zero_le _))
      · refine J_aload_n hC dX11_agrees_99 2 rfl rfl ?_
        refine J_iload_n hC dX11_agrees_100 0 rfl rfl ?_
        refine J_callT0 hC hR.2.2.2.2.1 dX11_agrees_101 wl_X11_141 yi_X10_peopleOf (lt_i (hdW G h r n mc (zS z)) (b_peopleOf _ G u z (nI i) hI hst)) (fun _ h9 => h9 (by rw [evc]; exact in3 c1)) rfl rfl (11 + n) 10 hd_of rfl ⟨Nat.le_of_ble_eq_true rfl, Nat.le_of_ble_eq_true rfl⟩ (Nat.le_of_ble_eq_true rfl) (show 4 * i + 1 ≤ 300 by omega) (show 24 * i + 6 ≤ 1800 by omega) (fun r9 w9 h9 => ?_)
        obtain ⟨k1, k2, k3⟩ := h9
        have k4 := nI_ij (by omega) (by omega) k2
        subst k4
        subst k3
        refine J_aload_n hC dX11_agrees_104 1 rfl rfl ?_
        refine J_get (v := .ref (h 1)) hC wu_X11 rfl dX11_agrees_105 0 0 (by decide) wf_X11_7 rfl rfl ?_
        refine J_iload_n hC dX11_agrees_108 0 rfl rfl ?_
        refine J_iald (i := i) (v := zS z 1 i) hC dX11_agrees_109 1 rfl c1 (by decide) rfl ?_
        refine J_ic_ne (tgt := 155) hC dX11_agrees_110 (by decide) (fun c => absurd c (not_not_intro rfl)) (fun _ => ?_)
        refine J_aload_n hC dX11_agrees_113 2 rfl rfl ?_
        refine J_iload_n hC dX11_agrees_114 0 rfl rfl ?_
        refine J_callT0 hC hR.2.2.2.2.1 dX11_agrees_115 wl_X11_144 yi_X10_trustOf (lt_i (hdW G h r n mc (zS z)) (b_trustOf _ G u z (nI i) hI hst)) (fun _ h9 => h9 (by rw [evc]; exact in3 c1)) rfl rfl (11 + n) 10 hd_of rfl ⟨Nat.le_of_ble_eq_true rfl, Nat.le_of_ble_eq_true rfl⟩ (Nat.le_of_ble_eq_true rfl) (show 4 * i + 1 + 1 ≤ 300 by omega) (show 24 * i + 6 + 6 ≤ 1800 by omega) (fun r9 w9 h9 => ?_)
        obtain ⟨k1, k2, k3⟩ := h9
        have k4 := nI_ij (by omega) (by omega) k2
        subst k4
        subst k3
        refine J_aload_n hC dX11_agrees_118 1 rfl rfl ?_
        refine J_get (v := .ref (h 2)) hC wu_X11 rfl dX11_agrees_119 0 1 (by decide) wf_X11_13 rfl rfl ?_
        refine J_iload_n hC dX11_agrees_122 0 rfl rfl ?_
        refine J_iald (i := i) (v := zS z 2 i) hC dX11_agrees_123 2 rfl c1 (by decide) rfl ?_
        refine J_ic_ne (tgt := 155) hC dX11_agrees_124 (by decide) (fun c => absurd c (not_not_intro rfl)) (fun _ => ?_)
        refine J_aload_n hC dX11_agrees_127 2 rfl rfl ?_
        refine J_iload_n hC dX11_agrees_128 0 rfl rfl ?_
        refine J_callT0 hC hR.2.2.2.2.1 dX11_agrees_129 wl_X11_147 yi_X10_oddsOf (lt_i (hdW G h r n mc (zS z)) (b_oddsOf _ G u z (nI i) hI hst)) (fun _ h9 => h9 ⟨nI_pos (by omega), nI_nlt (a := 2) (b := i) (by omega) (by decide)⟩) rfl rfl (11 + n) 10 hd_of rfl ⟨Nat.le_of_ble_eq_true rfl, Nat.le_of_ble_eq_true rfl⟩ (Nat.le_of_ble_eq_true rfl) (show 4 * i + 1 + 1 + 1 ≤ 300 by omega) (show 24 * i + 6 + 6 + 6 ≤ 1800 by omega) (fun r9 w9 h9 => ?_)
        obtain ⟨k1, k2, k3⟩ := h9
        have k4 := nI_ij (by omega) (by omega) k2
        subst k4
        subst k3
        refine J_aload_n hC dX11_agrees_132 1 rfl rfl ?_
        refine J_get (v := .ref (h 3)) hC wu_X11 rfl dX11_agrees_133 0 2 (by decide) wf_X11_16 rfl rfl ?_
        refine J_iload_n hC dX11_agrees_136 0 rfl rfl ?_
        refine J_iald (i := i) (v := zS z 8 i) hC dX11_agrees_137 3 rfl c1 (by decide) rfl ?_
        refine J_ic_ne (tgt := 155) hC dX11_agrees_138 (by decide) (fun c => absurd c (not_not_intro rfl)) (fun _ => ?_)
        refine J_aload_n hC dX11_agrees_141 2 rfl rfl ?_
        refine J_iload_n hC dX11_agrees_142 0 rfl rfl ?_
        refine J_callT0 hC hR.2.2.2.2.1 dX11_agrees_143 wl_X11_150 yi_X10_drawnThisYear (lt_i (hdW G h r n mc (zS z)) (b_drawnThisYear _ G u z (nI i) hI hst)) (fun _ h9 => h9 ⟨nI_pos (by omega), nI_nlt (a := 2) (b := i) (by omega) (by decide)⟩) rfl rfl (11 + n) 10 hd_of rfl ⟨Nat.le_of_ble_eq_true rfl, Nat.le_of_ble_eq_true rfl⟩ (Nat.le_of_ble_eq_true rfl) (show 4 * i + 1 + 1 + 1 + 1 ≤ 300 by omega) (show 24 * i + 6 + 6 + 6 + 6 ≤ 1800 by omega) (fun r9 w9 h9 => ?_)
        obtain ⟨k1, k2, k3⟩ := h9
        have k4 := nI_ij (by omega) (by omega) k2
        subst k4
        subst k3
        refine J_aload_n hC dX11_agrees_146 1 rfl rfl ?_
        refine J_get (v := .ref (h 4)) hC wu_X11 rfl dX11_agrees_147 0 3 (by decide) wf_X11_19 rfl rfl ?_
        refine J_iload_n hC dX11_agrees_150 0 rfl rfl ?_
        refine J_iald (i := i) (v := zS z 9 i) hC dX11_agrees_151 4 rfl c1 (by decide) rfl ?_
        refine J_ic_eq (tgt := 157) hC dX11_agrees_152 (by decide) (fun _ => ?_) (fun c => absurd rfl c)
        refine J_iinc hC [(2, .int (nI (i + 1))), (0, .ref (h 0)), (1, .ref (u 4 0))] dX11_agrees_157 0 rfl (nI_inc _) (by decide) rfl ?_
        refine J_goto (tgt := 94) hC dX11_agrees_160 (by decide) ?_
        refine J_kn (by show 4 * i + 1 + 1 + 1 + 1 = 4 * (i + 1); omega) (by show 24 * i + 6 + 6 + 6 + 6 = 24 * (i + 1); omega) (ih (i + 1) (by omega) (by omega))
  exact p94 _ 0 (Nat.lt_succ_self _) (Nat.zero_le _)


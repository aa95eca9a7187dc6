/-! THE LAW -/
abbrev RM1 : Room := { frames := 2048, cells := 600086, slots := 7301442, locals := 84000 }
/-- a static call of a method that might throw, but doesn't here -/
theorem J_callT0Sv {S SY : Type} {x : JX} {G : gT} {R : Room} {cc : ByteArray} {w0 : Cond} {own : String} {nL : Nat} {ws : va_W} {k n : Nat} {lv : List (Nat × Value)} {st rest : List Value} {pc : Nat} {C : String} {idx maxLY na : Nat} {y : MethodName} {ccY : ByteArray} {rmY : Room} {As : List Value}
    {py : SY → Prop} {EY : SY → String} {WY : SY → va_W} {post : S → Prop} {W1 : S → va_W} (hC : JC x G R cc w0 own nL) (hxT : xT (js x)) (hd : decode cc pc = .ok (.invokestatic idx, 3)) (hl : Cond.methodLink own idx y ∈ GW) (hio : Cond.initialized own ∈ GW) (hY : YS y C ccY maxLY none na)
    (hM : TV (jl x) y ccY maxLY rmY As G ws post W1 py EY WY) (hpy : ∀ u, ¬ py u)
    (hst : st = As.reverse ++ rest) (hna : As.length = na)
    (hR : rmY.frames + 1 ≤ R.frames ∧ 8 + (maxLY + 11) + rmY.locals ≤ R.locals) (hcat : (rest.map fun v => v.category).sum ≤ 8) (hk : k + rmY.cells ≤ R.cells) (hn : n + rmY.slots ≤ R.slots)
    (kk : ∀ (u : S), post u → J x G (W1 u) (k + rmY.cells) (n + rmY.slots) lv rest (pc + 3)) : J x G ws k n lv st pc := by
  intro H locs ls hP hD hS hL
  have hK := hC.2.2.2.2.2.1
  have hRR : jR x = R := hC.2.2.2.2.2.2.2.1
  have hE := hC.2.2.2.2.2.2.2.2.2
  have h9 := hC.2.2.2.2.2.2.2.2.1
  have hF := va_A_in hD hS hC.2.2.2.2.2.2.1
  have ht0 := hC.2.2.2.2.1
  refine vx_callv (vx_runS (As := As) (rest := rest) ⟨hC.1, hC.2.1, hC.2.2.1, hC.2.2.2.1, hC.2.2.2.2.1⟩ (hM H.size) ⟨callB_of na ht0 (fun w hw => (gwS (w0 := w0) hl hY.1 hio hY.2.2.1) w (by unfold wsS; exact List.mem_append_right _ hw)) rfl rfl rfl (ht0 _ (List.mem_cons_of_mem _ (by rw [hY.2.2.2.1]; exact hY.2.1))) (ht0 _ (List.mem_cons_of_mem _ hl)) hY.2.2.2.2 (by rw [hRR]; exact hR), ht0 _ (List.mem_cons_of_mem _ hY.1)⟩ ⟨gX_blind _ _ _ _, fun U hU hW => ⟨rfl, ⟨by rw [hU], by rw [hU]; exact hP, va_K.moved hW.alike hK, hD.weaken (fun _ _ _ _ => trivial), hE.step hW (by rw [hU]; intro q hq hn; rw [h9] at hS; exact hS.2.1 q hq hn) hF⟩, hxT.warm hW⟩⟩ rfl hna (hL.1.trans hC.2.2.1) hst (lv_room hcat) hd (by rw [hRR]; exact ⟨hk, hn⟩)) hS (fun q _ h => hF q h) hF (fun q _ h => hF q h)
    (fun E ce q9 u t H1 locs1 ht hvm hp hB hz hk1 hS1 hce hcv hcl => absurd hp (hpy u)) (fun u t H1 locs1 ht hvm hw hB hz hk1 hS1 => ?_)
  obtain ⟨hP1, hK1, hD1⟩ := hB
  rw [ht] at hP1
  exact kk u hw H1 locs1 ls hP1 (hD1.weaken (fun _ _ _ h => hF _ h)) hS1 hL
theorem yw_acts : YW yL_acts cL_acts 5 [(38, 156, 230, 112), (157, 167, 230, 112), (168, 179, 230, 112), (180, 193, 230, 112), (194, 205, 230, 112), (206, 229, 230, 112)] 2 := ⟨wst_L_acts, wi_L, wc_L_acts, by decide +kernel⟩
theorem yw_loaded : YW yL_loaded cL_loaded 2 [(0, 4, 5, 31)] 1 := ⟨wst_L_loaded, wi_L, wc_L_loaded, by decide +kernel⟩
/-- the copies and the coins add up; a day has one forecast in a village -/
def CO (S : CT) : Prop := S 16 5 - s_copies S (bcO S) - S 16 6 = 0 ∧ S 16 7 - S 16 8 - S 16 1 = 0 ∧ DB (bcO S) S
/-- what holds of the contents after c acts -/
def LQ (c : Nat) (S : CT) : Prop := HV (bcO S) (mcO S) S ∧ (∃ dy, S 16 0 = nI dy ∧ dy ≤ 25 * c) ∧ CO S
theorem HV.ci {n mc : Nat} {S : CT} (hS : HV n mc S) : CI S := by
  refine ⟨⟨?_, ?_⟩, ⟨?_, ?_⟩, ⟨?_, ?_⟩, ⟨?_, ?_⟩⟩
  · rw [hS.bc]; exact hS.1.1
  · rw [hS.bc]; exact hS.1.2
  · rw [hS.vc]; exact hS.2.2.1.1
  · rw [hS.vc]; decide
  · rw [hS.fc]; exact hS.2.2.1.2
  · rw [hS.fc]; decide
  · rw [hS.mc]; exact hS.2.1.1
  · rw [hS.mc]; exact hS.2.1.2
theorem err0 {n : Nat} {S : CT} (h : DB n S) : s_errors S n = 0 := by
  have g : ∀ m i, i + m = n → ∀ s : Int32, fo (fun i s => if ¬ s_placeOf S (S 10 i) (S 11 i) n = nI i then s + 1 else s) i m s = s := by
    intro m
    induction m with
    | zero => exact fun _ _ _ => rfl
    | succ m ih =>
      intro i hi s
      show fo _ (i + 1) m (if ¬ s_placeOf S (S 10 i) (S 11 i) n = nI i then s + 1 else s) = s
      rw [if_neg (not_not_intro (h i (by omega)))]
      exact ih (i + 1) (by omega) s
  exact g n 0 (by omega) 0
theorem ls_acts {c : Nat} {S : CT} (hc : c < 38) (h : LQ c S) (y t q : Nat) (hq : q < 32) : LQ (c + 1) (hActs (bcO S) S y t q).2 := sorry
theorem parse_ok {G : gT} {q : RT × Nat} (h1 : q.2 = (textL G).length) (h2 : ∀ j, j < q.2 → q.1 j &&& 255 = nI ((textL G).getD j 0)) : (ztx (zIn z0 q)).2.2.1 = 0 ∧ HE 0 0 (hSi G) (ztx (zIn z0 q)).1 ∧ LQ 0 (ztx (zIn z0 q)).1 ∧ (ztx (zIn z0 q)).1 16 11 = nI (scN G 0 % 1024) ∧ (ztx (zIn z0 q)).1 16 12 = 0 ∧ (ztx (zIn z0 q)).1 16 13 = 0 := sorry
theorem text_lt (G : gT) : ∀ j, j < (textL G).length → (textL G).getD j 0 < 128 := sorry
set_option maxHeartbeats 1000000 in
set_option maxRecDepth 100000 in
theorem law_loop {x : JX} {G : gT} {w0 : Cond} (hC : JC x G RM1 cL_law w0 RL 6) (hst : (jl x).stackTraces = false) (hxT : xT (js x)) (hxN : xN (js x)) (hb : G.2.2.1 15 < 2 ^ 31) (hend : ∀ ws k n lv, k ≤ 600086 → n ≤ 7301442 → J x G ws k n lv [] 138) (u : Nat → Nat → Nat) : ∀ (f c : Nat) (z : OS) (h r : Nat → Nat) (k n : Nat), 38 - c < f → c ≤ 38 → LQ c (zS z) → zn z < 8 → zk z ≤ 8 → k ≤ 500 + 453 * c → n ≤ 26000 + 4818 * c → J x G (hdW G h r (bcO (zS z)) (mcO (zS z)) (zS z) ++ ofW G u z) k n [(3, .int (nI (7 + c))), (2, .ref (h 0)), (1, .ref (u 4 0)), (0, .ref (G.2.2.1 14))] [] 69 := by
  intro f
  induction f with
  | zero => exact fun _ _ _ _ _ _ h => absurd h (Nat.not_lt_zero _)
  | succ f ih =>
    intro c z h r k n hf hcc hLS hzn hzk hk hn
    refine J_iload_n hC dL_law_69 0 rfl rfl ?_
    refine J_bipush (v := nI 45) hC dL_law_70 rfl ?_
    refine J_ic_geN (a := 7 + c) (b := 45) (tgt := 138) hC dL_law_72 (by decide) (by omega) (by decide) (fun c1 => hend _ k n _ (by omega) (by omega)) (fun c1 => ?_)
    obtain ⟨hS, ⟨dy, hdy, hdl⟩, hCO⟩ := hLS
    have hLS : LQ c (zS z) := ⟨hS, ⟨dy, hdy, hdl⟩, hCO⟩
    refine J_aload_n hC dL_law_75 3 rfl rfl ?_
    refine J_iload_n hC dL_law_76 0 rfl rfl ?_
    refine J_callSi hC dL_law_77 wl_L_33 wi_L yi_L_cell (c_L_cell _ G (hdW G h r (bcO (zS z)) (mcO (zS z)) (zS z) ++ ofW G u z) hb (7 + c) (by omega)) rfl rfl ⟨Nat.le_of_ble_eq_true rfl, Nat.le_of_ble_eq_true rfl⟩ (Nat.le_of_ble_eq_true rfl) (show k + 0 ≤ 600086 by omega) (show n + 0 ≤ 7301442 by omega) (fun r9 u9 h9 => ?_)
    subst h9
    have hx := scN_lt G (7 + c)
    obtain ⟨xx, hxx⟩ : ∃ z9, z9 = scN G (7 + c) := ⟨_, rfl⟩
    rw [← hxx] at hx ⊢
    refine J_istore hC [(4, .int (nI xx)), (3, .int (nI (7 + c))), (2, .ref (h 0)), (1, .ref (u 4 0)), (0, .ref (G.2.2.1 14))] dL_law_80 (by decide) rfl ?_
    refine J_aload_n hC dL_law_82 2 rfl rfl ?_
    refine J_iload hC dL_law_83 0 rfl ?_
    refine J_callVi hC dL_law_85 wl_L_141 yi_X11_acts (app_i (ofW G u z) (c_X11_acts _ G h r (bcO (zS z)) (mcO (zS z)) xx (xx / 32) (xx / 32 / 16) (xx % 32) (zS z) hx rfl rfl rfl hS ⟨dy, hdy, by omega⟩)) rfl rfl 0 11 rfl rfl ⟨Nat.le_of_ble_eq_true rfl, Nat.le_of_ble_eq_true rfl⟩ (Nat.le_of_ble_eq_true rfl) (show k + 0 + 150 ≤ 600086 by omega) (show n + 0 + 3000 ≤ 7301442 by omega) (fun r1 v1 h1 => ?_)
    obtain ⟨h1r, r1r, S1⟩ := v1
    obtain ⟨g0, g1, g2⟩ := h1
    dsimp only at g0 g1 g2 ⊢
    rw [← g0]
    refine J_istore hC [(5, .int r1), (4, .int (nI xx)), (3, .int (nI (7 + c))), (2, .ref (h1r 0)), (1, .ref (u 4 0)), (0, .ref (G.2.2.1 14))] dL_law_88 (by decide) rfl ?_
    refine J_aload_n hC dL_law_90 4 rfl rfl ?_
    refine J_iload hC dL_law_91 1 rfl ?_
    refine J_callW hC hxT hxN dL_law_93 wl_L_144 yw_acts (frw_i (wr := hdW G h1r r1r (bcO S1) (mcO S1) S1) (W1 := fun z9 => hdW G h1r r1r (bcO S1) (mcO S1) S1 ++ ofW G u z9) (w_acts _ G u z (bcO (zS z)) (mcO (zS z)) xx (xx / 32) (xx / 32 / 16) (xx % 32) hx rfl rfl rfl hS hS.ci hzn hzk hst) List.perm_append_comm (fun _ => List.perm_append_comm)) rfl rfl ⟨Nat.le_of_ble_eq_true rfl, Nat.le_of_ble_eq_true rfl⟩ (Nat.le_of_ble_eq_true rfl) (show k + 0 + 150 + 3 ≤ 600086 by omega) (show n + 0 + 3000 + 18 ≤ 7301442 by omega) (fun r2 z9 h2 => ?_)
    obtain ⟨k1, k2, hzn9, hzk9⟩ := h2
    have e1 : S1 = zS z9 := g2.trans k2.symm
    have hL9 : LQ (c + 1) (zS z9) := by rw [k2]; exact ls_acts (by omega) hLS _ _ _ (Nat.mod_lt _ (by decide))
    subst e1
    obtain ⟨hS9, hd9, hC1, hC2, hC3⟩ := hL9
    have hI := hS9.ci
    refine J_iload hC dL_law_96 0 rfl ?_
    refine J_ic_ne (tgt := 130) hC dL_law_98 (by decide) (fun c9 => absurd (k1.trans g1.symm) c9) (fun _ => ?_)
    refine J_aload_n hC dL_law_101 3 rfl rfl ?_
    refine J_aload_n hC dL_law_102 4 rfl rfl ?_
    refine J_callT0 hC hxT dL_law_103 wl_L_147 yi_X11_agrees (c_X11_agrees _ G h1r r1r (bcO (zS z9)) (mcO (zS z9)) u z9 hS9 hI hC3 hst) (fun _ h9 => h9) rfl rfl 0 11 rfl rfl ⟨Nat.le_of_ble_eq_true rfl, Nat.le_of_ble_eq_true rfl⟩ (Nat.le_of_ble_eq_true rfl) (show k + 0 + 150 + 3 + 300 ≤ 600086 by omega) (show n + 0 + 3000 + 18 + 1800 ≤ 7301442 by omega) (fun r3 w3 h3 => ?_)
    subst h3
    refine J_if_eq (tgt := 130) hC dL_law_106 (by decide) (fun c9 => absurd c9 (by decide)) (fun _ => ?_)
    refine J_aload_n hC dL_law_109 4 rfl rfl ?_
    refine J_callVi hC dL_law_110 wl_L_151 yi_X10_copyDifference (lo_i (hdW G h1r r1r (bcO (zS z9)) (mcO (zS z9)) (zS z9)) (c_X10_copyDifference _ G (u 4 0) (oR u) (u 0) (zS z9) (zc z9) (zp z9) hI)) rfl rfl (11 + bcO (zS z9)) 10 hd_of rfl ⟨Nat.le_of_ble_eq_true rfl, Nat.le_of_ble_eq_true rfl⟩ (Nat.le_of_ble_eq_true rfl) (show k + 0 + 150 + 3 + 300 + 0 ≤ 600086 by omega) (show n + 0 + 3000 + 18 + 1800 + 0 ≤ 7301442 by omega) (fun r9 u9 h9 => ?_)
    subst h9
    refine J_if_ne (tgt := 130) hC dL_law_113 (by decide) (fun c9 => absurd hC1 c9) (fun _ => ?_)
    refine J_aload_n hC dL_law_116 4 rfl rfl ?_
    refine J_callVi hC dL_law_117 wl_L_154 yi_X10_coinDifference (lo_i (hdW G h1r r1r (bcO (zS z9)) (mcO (zS z9)) (zS z9)) (c_X10_coinDifference _ G (u 4 0) (oR u) (u 0) (zS z9) (zc z9) (zp z9) hI)) rfl rfl (11 + bcO (zS z9)) 10 hd_of rfl ⟨Nat.le_of_ble_eq_true rfl, Nat.le_of_ble_eq_true rfl⟩ (Nat.le_of_ble_eq_true rfl) (show k + 0 + 150 + 3 + 300 + 0 + 0 ≤ 600086 by omega) (show n + 0 + 3000 + 18 + 1800 + 0 + 0 ≤ 7301442 by omega) (fun r9 u9 h9 => ?_)
    subst h9
    refine J_if_ne (tgt := 130) hC dL_law_120 (by decide) (fun c9 => absurd hC2 c9) (fun _ => ?_)
    refine J_aload_n hC dL_law_123 4 rfl rfl ?_
    refine J_callVi hC dL_law_124 wl_L_157 yi_X10_bookErrors (lo_i (hdW G h1r r1r (bcO (zS z9)) (mcO (zS z9)) (zS z9)) (c_X10_bookErrors _ G (u 4 0) (oR u) (u 0) (zS z9) (zc z9) (zp z9) hI)) rfl rfl (11 + bcO (zS z9)) 10 hd_of rfl ⟨Nat.le_of_ble_eq_true rfl, Nat.le_of_ble_eq_true rfl⟩ (Nat.le_of_ble_eq_true rfl) (show k + 0 + 150 + 3 + 300 + 0 + 0 + 0 ≤ 600086 by omega) (show n + 0 + 3000 + 18 + 1800 + 0 + 0 + 0 ≤ 7301442 by omega) (fun r9 u9 h9 => ?_)
    subst h9
    refine J_if_eq (tgt := 132) hC dL_law_127 (by decide) (fun _ => ?_) (fun c9 => absurd (err0 hC3) c9)
    refine J_iinc hC [(3, .int (nI (7 + (c + 1)))), (5, .int r1), (4, .int (nI xx)), (2, .ref (h1r 0)), (1, .ref (u 4 0)), (0, .ref (G.2.2.1 14))] dL_law_132 2 rfl (nI_inc _) (by decide) rfl ?_
    refine J_goto (tgt := 69) hC dL_law_135 (by decide) ?_
    refine J_lv [0, 3, 4, 5] rfl ?_
    exact ih (c + 1) z9 h1r r1r _ _ (by omega) (by omega) ⟨hS9, hd9, hC1, hC2, hC3⟩ hzn9 hzk9 (show k + 0 + 150 + 3 + 300 + 0 + 0 + 0 ≤ 500 + 453 * (c + 1) by omega) (show n + 0 + 3000 + 18 + 1800 + 0 + 0 + 0 ≤ 26000 + 4818 * (c + 1) by omega)

set_option maxHeartbeats 1000000 in
set_option maxRecDepth 100000 in
theorem law_go {x : JX} {G : gT} {w0 : Cond} (hC : JC x G RM1 cL_law w0 RL 6) (hst : (jl x).stackTraces = false) (hxT : xT (js x)) (hxN : xN (js x)) (hb : G.2.2.1 15 < 2 ^ 31) (hend : ∀ ws k n lv, k ≤ 600086 → n ≤ 7301442 → J x G ws k n lv [] 138) : J x G [] 0 0 [(0, .ref (G.2.2.1 14))] [] 0 := by
  refine J_new (ci := 10) hC [.null, .null, .null, .null, .null, .null, .null, .int 0, .int 0] wu_X10 rfl tyX10_ok dL_law_0 wk_L_19 wt_X10 wi_X10 (fun j hj => by rcases (show j = 0 ∨ j = 1 ∨ j = 2 ∨ j = 3 ∨ j = 4 ∨ j = 5 ∨ j = 6 ∨ j = 7 ∨ j = 8 by omega) with rfl | rfl | rfl | rfl | rfl | rfl | rfl | rfl | rfl <;> rfl) (Nat.le_of_ble_eq_true rfl) (Nat.le_of_ble_eq_true rfl) (fun o => ?_)
  refine J_dup hC dL_law_3 rfl ?_
  refine J_callC hC dL_law_4 wl_L_114 yc_X10 (c_X10_init _ G o) rfl rfl ⟨Nat.le_of_ble_eq_true rfl, Nat.le_of_ble_eq_true rfl⟩ (Nat.le_of_ble_eq_true rfl) (Nat.le_of_ble_eq_true rfl) (Nat.le_of_ble_eq_true rfl) (fun u hu => ?_)
  rw [← hu]
  obtain ⟨y0, e0⟩ : ∃ y, y = z0 := ⟨_, rfl⟩
  rw [← e0]
  have hi0 : (zi y0).2 = 0 := by rw [e0]; rfl
  have hn0 : zn y0 = 0 := by rw [e0]; rfl
  have hk0 : zk y0 = 0 := by rw [e0]; rfl
  refine J_astore_n hC [(1, .ref (u 4 0)), (0, .ref (G.2.2.1 14))] dL_law_7 rfl (by decide) rfl ?_
  refine J_aload_n hC dL_law_8 0 rfl rfl ?_
  refine J_aload_n hC dL_law_9 1 rfl rfl ?_
  refine J_callSa hC dL_law_10 wl_L_115 wi_L yi_L_text (fr_a (wc := []) (wr := ofW G u y0) (W1 := fun s => sgW G s.1 s.2.1 s.2.2.1 s.2.2.2 ++ ofW G u y0) (c_L_text _ G hb) (List.Perm.refl _) (fun _ => List.Perm.refl _)) rfl rfl ⟨Nat.le_of_ble_eq_true rfl, Nat.le_of_ble_eq_true rfl⟩ (Nat.le_of_ble_eq_true rfl) (Nat.le_of_ble_eq_true rfl) (Nat.le_of_ble_eq_true rfl) (fun v hv => ?_)
  obtain ⟨t, w9, n9, a9⟩ := v
  obtain ⟨v1, v2, v3⟩ := hv
  dsimp only at v1 v2 v3 ⊢
  refine J_callT0Sv hC hxT dL_law_13 wl_L_119 wi_L yi_L_says (c_L_says _ G u y0 t w9 n9 a9 (fun j => (textL G).getD j 0) v3 v2 (fun j hj => text_lt G j (by omega)) hi0 hst) (fun _ h9 => h9) rfl rfl ⟨Nat.le_of_ble_eq_true rfl, Nat.le_of_ble_eq_true rfl⟩ (Nat.le_of_ble_eq_true rfl) (Nat.le_of_ble_eq_true rfl) (Nat.le_of_ble_eq_true rfl) (fun q hq => ?_)
  refine J_sub (ws' := ofW G u (zIn y0 q)) (sgW G t w9 n9 a9) List.perm_append_comm ?_
  have hP := parse_ok (G := G) (q := q) (hq.1.trans v1) (fun j hj => hq.2 j (by rw [← hq.1]; exact hj))
  rw [← e0] at hP
  obtain ⟨tt, htt⟩ : ∃ t9, t9 = ztx (zIn y0 q) := ⟨_, rfl⟩
  rw [← htt] at hP
  obtain ⟨p1, p2, p3, p4, p5, p6⟩ := hP
  refine J_aload_n hC dL_law_16 0 rfl rfl ?_
  refine J_callW hC hxT hxN dL_law_17 wl_L_123 yw_loaded (w_loaded _ G u (zIn y0 q) (by show zn y0 < 8; omega) (by show zk y0 ≤ 8; omega) (by show q.2 ≤ 600; rw [hq.1]; omega) tt htt p1 hst) rfl rfl ⟨Nat.le_of_ble_eq_true rfl, Nat.le_of_ble_eq_true rfl⟩ (Nat.le_of_ble_eq_true rfl) (Nat.le_of_ble_eq_true rfl) (Nat.le_of_ble_eq_true rfl) (fun r2 u2 h2 => ?_)
  obtain ⟨h2, -⟩ := h2
  subst h2
  obtain ⟨z, hz⟩ : ∃ z9, z9 = zLd (zIn y0 q) tt := ⟨_, rfl⟩
  rw [← hz]
  have ez : zS z = tt.1 := by rw [hz]; rfl
  have ec : zc z = 0 := by rw [hz]; exact p1
  have hzn : zn z < 8 := by rw [hz]; exact Nat.mod_lt _ (by decide)
  have hzk : zk z ≤ 8 := by rw [hz]; exact Nat.min_le_right _ _
  rw [← ez] at p2 p3 p4 p5 p6 ⊢
  have hS := p3.1
  have hI := hS.ci
  refine J_iconst (v := 3) hC dL_law_20 rfl ?_
  refine J_ic_ne (tgt := 55) hC dL_law_21 (by decide) (fun c9 => absurd hS.2.2.1.1 c9) (fun _ => ?_)
  refine J_aload_n hC dL_law_24 0 rfl rfl ?_
  refine J_callVi hC dL_law_25 wl_L_127 yi_X10_errorCode (lo_i [] (c_X10_errorCode _ G (u 4 0) (oR u) (u 0) (zS z) (zc z) (zp z) hI)) rfl rfl 0 10 (of_0 G u z) rfl ⟨Nat.le_of_ble_eq_true rfl, Nat.le_of_ble_eq_true rfl⟩ (Nat.le_of_ble_eq_true rfl) (Nat.le_of_ble_eq_true rfl) (Nat.le_of_ble_eq_true rfl) (fun r9 u9 h9 => ?_)
  subst h9
  refine J_if_ne (tgt := 55) hC dL_law_28 (by decide) (fun c9 => absurd ec c9) (fun _ => ?_)
  refine J_aload_n hC dL_law_31 0 rfl rfl ?_
  refine J_callVi hC dL_law_32 wl_L_130 yi_X10_fairCount (lo_i [] (c_X10_fairCount _ G (u 4 0) (oR u) (u 0) (zS z) (zc z) (zp z) hI)) rfl rfl 0 10 (of_0 G u z) rfl ⟨Nat.le_of_ble_eq_true rfl, Nat.le_of_ble_eq_true rfl⟩ (Nat.le_of_ble_eq_true rfl) (Nat.le_of_ble_eq_true rfl) (Nat.le_of_ble_eq_true rfl) (fun r9 u9 h9 => ?_)
  subst h9
  refine J_iconst (v := 2) hC dL_law_35 rfl ?_
  refine J_ic_ne (tgt := 55) hC dL_law_36 (by decide) (fun c9 => absurd hS.2.2.1.2 c9) (fun _ => ?_)
  refine J_aload_n hC dL_law_39 0 rfl rfl ?_
  refine J_callVi hC dL_law_40 wl_L_133 yi_X10_seed (lo_i [] (c_X10_seed _ G (u 4 0) (oR u) (u 0) (zS z) (zc z) (zp z) hI)) rfl rfl 0 10 (of_0 G u z) rfl ⟨Nat.le_of_ble_eq_true rfl, Nat.le_of_ble_eq_true rfl⟩ (Nat.le_of_ble_eq_true rfl) (Nat.le_of_ble_eq_true rfl) (Nat.le_of_ble_eq_true rfl) (fun r9 u9 h9 => ?_)
  subst h9
  refine J_aload_n hC dL_law_43 1 rfl rfl ?_
  refine J_iconst (v := 0) hC dL_law_44 rfl ?_
  refine J_callSi hC dL_law_45 wl_L_33 wi_L yi_L_cell (c_L_cell _ G (ofW G u z) hb 0 (by decide)) rfl rfl ⟨Nat.le_of_ble_eq_true rfl, Nat.le_of_ble_eq_true rfl⟩ (Nat.le_of_ble_eq_true rfl) (Nat.le_of_ble_eq_true rfl) (Nat.le_of_ble_eq_true rfl) (fun r9 u9 h9 => ?_)
  subst h9
  have hs0 := scN_lt G 0
  refine J_sipush (v := 1024) hC dL_law_48 rfl ?_
  refine J_irem (v := nI (scN G 0 % 1024)) hC dL_law_51 (by decide) (nMd (by omega) (by decide) (by decide)) ?_
  refine J_ic_eq (tgt := 57) hC dL_law_52 (by decide) (fun _ => ?_) (fun c9 => absurd p4 c9)
  refine J_new (ci := 11) hC [.null, .null, .null, .null, .null, .null, .null, .null, .null, .null, .int 0, .int 0, .int 0, .int 0, .int 0, .int 0] wu_X11 rfl tyX11_ok dL_law_57 wk_L_136 wt_X11 wi_X11 (fun j hj => by rcases (show j = 0 ∨ j = 1 ∨ j = 2 ∨ j = 3 ∨ j = 4 ∨ j = 5 ∨ j = 6 ∨ j = 7 ∨ j = 8 ∨ j = 9 ∨ j = 10 ∨ j = 11 ∨ j = 12 ∨ j = 13 ∨ j = 14 ∨ j = 15 by omega) with rfl | rfl | rfl | rfl | rfl | rfl | rfl | rfl | rfl | rfl | rfl | rfl | rfl | rfl | rfl | rfl <;> rfl) (Nat.le_of_ble_eq_true rfl) (Nat.le_of_ble_eq_true rfl) (fun v => ?_)
  refine J_dup hC dL_law_60 rfl ?_
  refine J_aload_n hC dL_law_61 1 rfl rfl ?_
  refine J_callC hC dL_law_62 wl_L_138 yc_X11_init (appr_v (ofW G u z) (c_X11_init _ G v hb)) rfl rfl ⟨Nat.le_of_ble_eq_true rfl, Nat.le_of_ble_eq_true rfl⟩ (Nat.le_of_ble_eq_true rfl) (Nat.le_of_ble_eq_true rfl) (Nat.le_of_ble_eq_true rfl) (fun h hh => ?_)
  rw [← hh]
  refine J_perm (ws' := hdW G h (fun _ => 0) 0 0 (hSi G) ++ ofW G u z) List.perm_append_comm ?_
  refine J_wEq (wEq.app p2.w (wEq.rfl' _)) ?_
  have eb : bcO (zS z) = 0 := by rw [bcO, p5]; rfl
  have em : mcO (zS z) = 0 := by rw [mcO, p6]; rfl
  refine J_astore_n hC [(2, .ref (h 0)), (1, .ref (u 4 0)), (0, .ref (G.2.2.1 14))] dL_law_65 rfl (by decide) rfl ?_
  refine J_bipush (v := nI (7 + 0)) hC dL_law_66 rfl ?_
  refine J_istore_n hC [(3, .int (nI (7 + 0))), (2, .ref (h 0)), (1, .ref (u 4 0)), (0, .ref (G.2.2.1 14))] dL_law_68 rfl (by decide) rfl ?_
  refine J_lv [0, 1, 2, 3] rfl ?_
  have key := law_loop hC hst hxT hxN hb hend u 39 0 z h (fun _ => 0)
  rw [eb, em] at key
  exact key _ _ (by decide) (by decide) p3 hzn hzk (Nat.le_of_ble_eq_true rfl) (Nat.le_of_ble_eq_true rfl)


/-! THE HAND: passes -/
theorem fg_case (f : Nat → Int32) : s_fg f = if f 1 ≤ f 0 ∧ f 2 ≤ f 0 then 0 else if f 2 ≤ f 1 then 1 else 2 := by
  simp only [s_fg, fo]
  by_cases h1 : f 1 ≤ f 0
  · rw [if_pos h1]
    by_cases h2 : f 2 ≤ f 0
    · rw [if_pos h2, if_pos ⟨h1, h2⟩]
    · rw [if_neg h2, if_neg (fun h => h2 h.2), if_neg (fun h => h2 (Int32.le_trans h h1))]
  · rw [if_neg h1, if_neg (c := f 1 ≤ f 0 ∧ f 2 ≤ f 0) (fun h => h1 h.1)]
theorem ll_case (f : Nat → Int32) : s_ll f = if f 2 ≤ f 1 ∧ f 2 ≤ f 0 then 2 else if f 1 ≤ f 0 then 1 else 0 := by
  simp only [s_ll, fo]
  by_cases h1 : f 0 < f 1
  · rw [if_pos h1]
    by_cases h2 : f 0 < f 2
    · rw [if_pos h2, if_neg (fun h => Int32.not_le.mpr h2 h.2), if_neg (Int32.not_le.mpr h1)]
    · have h3 := Int32.not_lt.mp h2
      rw [if_neg h2, if_pos ⟨Int32.le_trans h3 (Int32.le_of_lt h1), h3⟩]
  · have h4 := Int32.not_lt.mp h1
    rw [if_neg h1]
    by_cases h2 : f 1 < f 2
    · rw [if_pos h2, if_neg (fun h => Int32.not_le.mpr h2 h.1), if_pos h4]
    · have h3 := Int32.not_lt.mp h2
      rw [if_neg h2, if_pos ⟨h3, Int32.le_trans h3 h4⟩]
theorem HV.per {n mc : Nat} {S : CT} (hS : HV n mc S) {f : Nat} (hf : f < 2) : ¬ S 5 f = 0 ∧ ¬ S 5 f < 1 := by
  obtain ⟨w, pe, so, h1, h2, h3, h5, h6, h7, h8⟩ := hS.2.2.2.2.2.2.1 f hf
  rw [h7]
  exact ⟨nI_ne0 (by omega) (by omega), nI_nlt (a := pe) (b := 1) h2 (by omega)⟩
theorem sellAt_hv {n mc f : Nat} {T : CT} (hT : HV n mc T) (hf : f < 2) : HV n mc (s_sellAt T f n 3) := sorry
theorem vil_hv {n mc vg : Nat} {T : CT} (hT : HV n mc T) (hv : vg < 3) : HV (bcO (s_vilB vg T)) (mcO (s_vilB vg T)) (s_vilB vg T) := sorry
theorem he_year {n mc mo le : Nat} {T : CT} (hT : HV n mc T) (hmo : mo = s_fg (T 9)) (hle : le = s_ll (T 9)) : HE n mc (us (us (us (us (us T 8 mo (if T 8 mo + 1 < 20 then T 8 mo + 1 else 20)) 8 le (if 0 < us T 8 mo (if T 8 mo + 1 < 20 then T 8 mo + 1 else 20) 8 le - 1 then us T 8 mo (if T 8 mo + 1 < 20 then T 8 mo + 1 else 20) 8 le - 1 else 0)) 9 0 0) 9 1 0) 9 2 0) (s_closeYear T) := sorry
theorem day_unf {n mc : Nat} {S : CT} (hS : HV n mc (us S 16 0 (S 16 0 + 1))) : s_day S = s_dayY (s_vilB 2 (s_vilB 1 (s_vilB 0 (s_fairB 1 (s_fairB 0 (us S 16 0 (S 16 0 + 1))))))) := sorry
set_option maxHeartbeats 4000000 in
set_option maxRecDepth 100000 in
theorem c_X11_passes (l : Launch) (G : gT) (h r : Nat → Nat) (n mc : Nat) (S : CT) (hS1 : HV n mc (us S 16 0 (S 16 0 + 1))) : MV l yX11_passes cX11_passes 4 { frames := 2, cells := 6, slots := 120, locals := 90 } [.ref (h 0)] G (hdW G h r n mc S) (fun (u : (Nat → Nat) × (Nat → Nat)) => u.1 0 = h 0) (fun u => hdW G u.1 u.2 (bcO (s_day S)) (mcO (s_day S)) (s_day S)) := by
  refine jm_v (own := RX11) (by decide) rfl (Nat.le_of_ble_eq_true rfl) (fun x hl hC hR hN => ?_)
  subst hl
  refine J_aload_n hC dX11_passes_0 0 rfl rfl ?_
  refine J_dup hC dX11_passes_1 rfl ?_
  refine J_get (v := .int (S 16 0)) hC wu_X11 rfl dX11_passes_2 0 11 (by decide) wf_X11_70 rfl rfl ?_
  refine J_iconst (v := 1) hC dX11_passes_5 rfl ?_
  refine J_iadd (v := S 16 0 + 1) hC dX11_passes_6 rfl ?_
  refine J_put (ws' := hdW G h r n mc (us S 16 0 (S 16 0 + 1))) hC wu_X11 rfl tyX11_ok nmX11 dX11_passes_7 0 11 (by decide) wf_X11_70 rfl rfl (Nat.le_of_ble_eq_true rfl) rfl rfl rfl ?_
  refine J_iconst (v := 0) hC dX11_passes_10 rfl ?_
  refine J_istore_n hC [(1, .int 0), (0, .ref (h 0))] dX11_passes_11 rfl (by decide) rfl ?_
  have hdd : s_day S = s_dayY (s_vilB 2 (s_vilB 1 (s_vilB 0 (s_fairB 1 (s_fairB 0 (us S 16 0 (S 16 0 + 1))))))) := day_unf hS1
  have p2 : ∀ T, HV n mc T → T = s_fairB 1 (s_fairB 0 (us S 16 0 (S 16 0 + 1))) → J x G (hdW G h r n mc T) 0 0 [(1, .int 2), (0, .ref (h 0))] [] 12 := by
    intro T hT hTe
    refine J_iload_n hC dX11_passes_12 0 rfl rfl ?_
    refine J_iconst (v := 2) hC dX11_passes_13 rfl ?_
    refine J_ic_ge (tgt := 44) hC dX11_passes_14 (by decide) (fun _ => ?_) (fun c => absurd (by decide) c)
    refine J_iconst (v := 0) hC dX11_passes_44 rfl ?_
    refine J_istore_n hC [(1, .int 0), (0, .ref (h 0))] dX11_passes_45 rfl (by decide) rfl ?_
    refine J_iload_n hC dX11_passes_46 0 rfl rfl ?_
    refine J_iconst (v := 3) hC dX11_passes_47 rfl ?_
    refine J_ic_ge (tgt := 62) hC dX11_passes_48 (by decide) (fun c => absurd c (by decide)) (fun _ => ?_)
    refine J_aload_n hC dX11_passes_51 1 rfl rfl ?_
    refine J_iload_n hC dX11_passes_52 0 rfl rfl ?_
    refine J_callVv hC dX11_passes_53 wl_X11_102 yi_X11_weather (c_X11_weather _ G h r n mc 0 T (by decide) hT) rfl rfl 0 11 rfl rfl ⟨Nat.le_of_ble_eq_true rfl, Nat.le_of_ble_eq_true rfl⟩ (Nat.le_of_ble_eq_true rfl) (Nat.le_of_ble_eq_true rfl) (Nat.le_of_ble_eq_true rfl) (fun u e1 => ?_)
    obtain ⟨h1, r1⟩ := u
    dsimp only at e1 ⊢
    have hv1 := vil_hv hT (vg := 0) (by decide)
    obtain ⟨T1, eT1⟩ : ∃ z, z = s_vilB 0 T := ⟨_, rfl⟩
    rw [← eT1] at hv1 ⊢
    obtain ⟨n1, en1⟩ : ∃ z, z = bcO T1 := ⟨_, rfl⟩
    obtain ⟨m1, em1⟩ : ∃ z, z = mcO T1 := ⟨_, rfl⟩
    rw [← en1, ← em1] at hv1 ⊢
    rw [← e1]
    refine J_iinc hC [(1, .int 1), (0, .ref (h1 0))] dX11_passes_56 0 rfl (by decide +kernel) (by decide) rfl ?_
    refine J_goto (tgt := 46) hC dX11_passes_59 (by decide) ?_
    refine J_iload_n hC dX11_passes_46 0 rfl rfl ?_
    refine J_iconst (v := 3) hC dX11_passes_47 rfl ?_
    refine J_ic_ge (tgt := 62) hC dX11_passes_48 (by decide) (fun c => absurd c (by decide)) (fun _ => ?_)
    refine J_aload_n hC dX11_passes_51 1 rfl rfl ?_
    refine J_iload_n hC dX11_passes_52 0 rfl rfl ?_
    refine J_callVv hC dX11_passes_53 wl_X11_102 yi_X11_weather (c_X11_weather _ G h1 r1 n1 m1 1 T1 (by decide) hv1) rfl rfl 0 11 rfl rfl ⟨Nat.le_of_ble_eq_true rfl, Nat.le_of_ble_eq_true rfl⟩ (Nat.le_of_ble_eq_true rfl) (Nat.le_of_ble_eq_true rfl) (Nat.le_of_ble_eq_true rfl) (fun u e2 => ?_)
    obtain ⟨h2, r2⟩ := u
    dsimp only at e2 ⊢
    have hv2 := vil_hv hv1 (vg := 1) (by decide)
    obtain ⟨T2, eT2⟩ : ∃ z, z = s_vilB 1 T1 := ⟨_, rfl⟩
    rw [← eT2] at hv2 ⊢
    obtain ⟨n2, en2⟩ : ∃ z, z = bcO T2 := ⟨_, rfl⟩
    obtain ⟨m2, em2⟩ : ∃ z, z = mcO T2 := ⟨_, rfl⟩
    rw [← en2, ← em2] at hv2 ⊢
    rw [← e2]
    refine J_iinc hC [(1, .int 2), (0, .ref (h2 0))] dX11_passes_56 0 rfl (by decide +kernel) (by decide) rfl ?_
    refine J_goto (tgt := 46) hC dX11_passes_59 (by decide) ?_
    refine J_iload_n hC dX11_passes_46 0 rfl rfl ?_
    refine J_iconst (v := 3) hC dX11_passes_47 rfl ?_
    refine J_ic_ge (tgt := 62) hC dX11_passes_48 (by decide) (fun c => absurd c (by decide)) (fun _ => ?_)
    refine J_aload_n hC dX11_passes_51 1 rfl rfl ?_
    refine J_iload_n hC dX11_passes_52 0 rfl rfl ?_
    refine J_callVv hC dX11_passes_53 wl_X11_102 yi_X11_weather (c_X11_weather _ G h2 r2 n2 m2 2 T2 (by decide) hv2) rfl rfl 0 11 rfl rfl ⟨Nat.le_of_ble_eq_true rfl, Nat.le_of_ble_eq_true rfl⟩ (Nat.le_of_ble_eq_true rfl) (Nat.le_of_ble_eq_true rfl) (Nat.le_of_ble_eq_true rfl) (fun u e3 => ?_)
    obtain ⟨h3, r3⟩ := u
    dsimp only at e3 ⊢
    have hv3 := vil_hv hv2 (vg := 2) (by decide)
    obtain ⟨T3, eT3⟩ : ∃ z, z = s_vilB 2 T2 := ⟨_, rfl⟩
    rw [← eT3] at hv3 ⊢
    obtain ⟨n3, en3⟩ : ∃ z, z = bcO T3 := ⟨_, rfl⟩
    obtain ⟨m3, em3⟩ : ∃ z, z = mcO T3 := ⟨_, rfl⟩
    rw [← en3, ← em3] at hv3 ⊢
    rw [← e3]
    refine J_iinc hC [(1, .int 3), (0, .ref (h3 0))] dX11_passes_56 0 rfl (by decide +kernel) (by decide) rfl ?_
    refine J_goto (tgt := 46) hC dX11_passes_59 (by decide) ?_
    refine J_iload_n hC dX11_passes_46 0 rfl rfl ?_
    refine J_iconst (v := 3) hC dX11_passes_47 rfl ?_
    refine J_ic_ge (tgt := 62) hC dX11_passes_48 (by decide) (fun _ => ?_) (fun c => absurd (by decide) c)
    refine J_aload_n hC dX11_passes_62 1 rfl rfl ?_
    refine J_get (v := .int (T3 16 0)) hC wu_X11 rfl dX11_passes_63 0 11 (by decide) wf_X11_70 rfl rfl ?_
    refine J_bipush (v := 12) hC dX11_passes_66 rfl ?_
    refine J_irem (v := imod (T3 16 0) 12) hC dX11_passes_68 (by decide) rfl ?_
    have hd3 : s_day S = s_dayY T3 := by rw [hdd, ← hTe, ← eT1, ← eT2, ← eT3]
    have he0 : h3 0 = h 0 := e3.trans (e2.trans e1)
    refine J_if_eq (tgt := 73) hC dX11_passes_69 (by decide) (fun c1 => ?_) (fun c1 => ?_)
    · have hd4 : s_day S = s_closeYear T3 := by rw [hd3, s_dayY, if_pos c1]
      have hb4 : bcO (s_day S) = n3 ∧ mcO (s_day S) = m3 := by rw [hd4]; exact ⟨(congrArg Int32.toNatClampNeg (s_closeYear_16 T3 12)).trans en3.symm, (congrArg Int32.toNatClampNeg (s_closeYear_16 T3 13)).trans em3.symm⟩
      have p127 : ∀ mo, mo = s_fg (T3 9) → J x G (hdW G h3 r3 n3 m3 T3) (0 + 2 + 2 + 2) (0 + 40 + 40 + 40) [(1, .int 3), (0, .ref (h3 0))] [.int (nI mo)] 127 := by
        intro mo hmo
        have hmo3 : mo < 3 := by rw [hmo]; exact s_fg_lt _
        refine J_istore_n hC [(1, .int (nI mo)), (0, .ref (h3 0))] dX11_passes_127 rfl (by decide) rfl ?_
        have p182 : ∀ le, le = s_ll (T3 9) → J x G (hdW G h3 r3 n3 m3 T3) (0 + 2 + 2 + 2) (0 + 40 + 40 + 40) [(1, .int (nI mo)), (0, .ref (h3 0))] [.int (nI le)] 182 := by
          intro le hle
          have hle3 : le < 3 := by rw [hle]; exact s_ll_lt _
          refine J_istore_n hC [(2, .int (nI le)), (1, .int (nI mo)), (0, .ref (h3 0))] dX11_passes_182 rfl (by decide) rfl ?_
          refine J_aload_n hC dX11_passes_183 2 rfl rfl ?_
          refine J_get (v := .ref (h3 3)) hC wu_X11 rfl dX11_passes_184 0 2 (by decide) wf_X11_16 rfl rfl ?_
          refine J_iload_n hC dX11_passes_187 1 rfl rfl ?_
          refine J_bipush (v := 20) hC dX11_passes_188 rfl ?_
          refine J_aload_n hC dX11_passes_190 2 rfl rfl ?_
          refine J_get (v := .ref (h3 3)) hC wu_X11 rfl dX11_passes_191 0 2 (by decide) wf_X11_16 rfl rfl ?_
          refine J_iload_n hC dX11_passes_194 1 rfl rfl ?_
          refine J_iald (i := mo) (v := T3 8 mo) hC dX11_passes_195 3 rfl hmo3 (by decide) rfl ?_
          refine J_iconst (v := 1) hC dX11_passes_196 rfl ?_
          refine J_iadd (v := T3 8 mo + 1) hC dX11_passes_197 rfl ?_
          refine J_mmin (v := if T3 8 mo + 1 < 20 then T3 8 mo + 1 else 20) hC dX11_passes_198 wl_X11_79 (Nat.le_of_ble_eq_true rfl) (Nat.le_of_ble_eq_true rfl) (Nat.le_of_ble_eq_true rfl) (Nat.le_of_ble_eq_true rfl) rfl ?_
          refine J_iast (i := mo) (ws' := hdW G h3 r3 n3 m3 (us T3 8 mo (if T3 8 mo + 1 < 20 then T3 8 mo + 1 else 20))) hC dX11_passes_201 3 rfl hmo3 (by decide) rfl ?_
          refine J_aload_n hC dX11_passes_202 2 rfl rfl ?_
          refine J_get (v := .ref (h3 3)) hC wu_X11 rfl dX11_passes_203 0 2 (by decide) wf_X11_16 rfl rfl ?_
          refine J_iload_n hC dX11_passes_206 0 rfl rfl ?_
          refine J_iconst (v := 0) hC dX11_passes_207 rfl ?_
          refine J_aload_n hC dX11_passes_208 2 rfl rfl ?_
          refine J_get (v := .ref (h3 3)) hC wu_X11 rfl dX11_passes_209 0 2 (by decide) wf_X11_16 rfl rfl ?_
          refine J_iload_n hC dX11_passes_212 0 rfl rfl ?_
          refine J_iald (i := le) (v := (us T3 8 mo (if T3 8 mo + 1 < 20 then T3 8 mo + 1 else 20)) 8 le) hC dX11_passes_213 3 rfl hle3 (by decide) rfl ?_
          refine J_iconst (v := 1) hC dX11_passes_214 rfl ?_
          refine J_isub (v := (us T3 8 mo (if T3 8 mo + 1 < 20 then T3 8 mo + 1 else 20)) 8 le - 1) hC dX11_passes_215 rfl ?_
          refine J_mmax (v := if 0 < (us T3 8 mo (if T3 8 mo + 1 < 20 then T3 8 mo + 1 else 20)) 8 le - 1 then (us T3 8 mo (if T3 8 mo + 1 < 20 then T3 8 mo + 1 else 20)) 8 le - 1 else 0) hC dX11_passes_216 wl_X11_73 (Nat.le_of_ble_eq_true rfl) (Nat.le_of_ble_eq_true rfl) (Nat.le_of_ble_eq_true rfl) (Nat.le_of_ble_eq_true rfl) rfl ?_
          refine J_iast (i := le) (ws' := hdW G h3 r3 n3 m3 (us (us T3 8 mo (if T3 8 mo + 1 < 20 then T3 8 mo + 1 else 20)) 8 le (if 0 < (us T3 8 mo (if T3 8 mo + 1 < 20 then T3 8 mo + 1 else 20)) 8 le - 1 then (us T3 8 mo (if T3 8 mo + 1 < 20 then T3 8 mo + 1 else 20)) 8 le - 1 else 0))) hC dX11_passes_219 3 rfl hle3 (by decide) rfl ?_
          refine J_iconst (v := 0) hC dX11_passes_220 rfl ?_
          refine J_istore_n hC [(3, .int 0), (2, .int (nI le)), (1, .int (nI mo)), (0, .ref (h3 0))] dX11_passes_221 rfl (by decide) rfl ?_
          refine J_iload_n hC dX11_passes_222 0 rfl rfl ?_
          refine J_iconst (v := 3) hC dX11_passes_223 rfl ?_
          refine J_ic_ge (tgt := 240) hC dX11_passes_224 (by decide) (fun c => absurd c (by decide)) (fun _ => ?_)
          refine J_aload_n hC dX11_passes_227 3 rfl rfl ?_
          refine J_get (v := .ref (h3 4)) hC wu_X11 rfl dX11_passes_228 0 3 (by decide) wf_X11_19 rfl rfl ?_
          refine J_iload_n hC dX11_passes_231 0 rfl rfl ?_
          refine J_iconst (v := 0) hC dX11_passes_232 rfl ?_
          refine J_iast (i := 0) (ws' := hdW G h3 r3 n3 m3 (us (us (us T3 8 mo (if T3 8 mo + 1 < 20 then T3 8 mo + 1 else 20)) 8 le (if 0 < (us T3 8 mo (if T3 8 mo + 1 < 20 then T3 8 mo + 1 else 20)) 8 le - 1 then (us T3 8 mo (if T3 8 mo + 1 < 20 then T3 8 mo + 1 else 20)) 8 le - 1 else 0)) 9 0 0)) hC dX11_passes_233 4 rfl (by decide) (by decide) rfl ?_
          refine J_iinc hC [(3, .int 1), (2, .int (nI le)), (1, .int (nI mo)), (0, .ref (h3 0))] dX11_passes_234 0 rfl (by decide +kernel) (by decide) rfl ?_
          refine J_goto (tgt := 222) hC dX11_passes_237 (by decide) ?_
          refine J_iload_n hC dX11_passes_222 0 rfl rfl ?_
          refine J_iconst (v := 3) hC dX11_passes_223 rfl ?_
          refine J_ic_ge (tgt := 240) hC dX11_passes_224 (by decide) (fun c => absurd c (by decide)) (fun _ => ?_)
          refine J_aload_n hC dX11_passes_227 3 rfl rfl ?_
          refine J_get (v := .ref (h3 4)) hC wu_X11 rfl dX11_passes_228 0 3 (by decide) wf_X11_19 rfl rfl ?_
          refine J_iload_n hC dX11_passes_231 0 rfl rfl ?_
          refine J_iconst (v := 0) hC dX11_passes_232 rfl ?_
          refine J_iast (i := 1) (ws' := hdW G h3 r3 n3 m3 (us (us (us (us T3 8 mo (if T3 8 mo + 1 < 20 then T3 8 mo + 1 else 20)) 8 le (if 0 < (us T3 8 mo (if T3 8 mo + 1 < 20 then T3 8 mo + 1 else 20)) 8 le - 1 then (us T3 8 mo (if T3 8 mo + 1 < 20 then T3 8 mo + 1 else 20)) 8 le - 1 else 0)) 9 0 0) 9 1 0)) hC dX11_passes_233 4 rfl (by decide) (by decide) rfl ?_
          refine J_iinc hC [(3, .int 2), (2, .int (nI le)), (1, .int (nI mo)), (0, .ref (h3 0))] dX11_passes_234 0 rfl (by decide +kernel) (by decide) rfl ?_
          refine J_goto (tgt := 222) hC dX11_passes_237 (by decide) ?_
          refine J_iload_n hC dX11_passes_222 0 rfl rfl ?_
          refine J_iconst (v := 3) hC dX11_passes_223 rfl ?_
          refine J_ic_ge (tgt := 240) hC dX11_passes_224 (by decide) (fun c => absurd c (by decide)) (fun _ => ?_)
          refine J_aload_n hC dX11_passes_227 3 rfl rfl ?_
          refine J_get (v := .ref (h3 4)) hC wu_X11 rfl dX11_passes_228 0 3 (by decide) wf_X11_19 rfl rfl ?_
          refine J_iload_n hC dX11_passes_231 0 rfl rfl ?_
          refine J_iconst (v := 0) hC dX11_passes_232 rfl ?_
          refine J_iast (i := 2) (ws' := hdW G h3 r3 n3 m3 (us (us (us (us (us T3 8 mo (if T3 8 mo + 1 < 20 then T3 8 mo + 1 else 20)) 8 le (if 0 < (us T3 8 mo (if T3 8 mo + 1 < 20 then T3 8 mo + 1 else 20)) 8 le - 1 then (us T3 8 mo (if T3 8 mo + 1 < 20 then T3 8 mo + 1 else 20)) 8 le - 1 else 0)) 9 0 0) 9 1 0) 9 2 0)) hC dX11_passes_233 4 rfl (by decide) (by decide) rfl ?_
          refine J_iinc hC [(3, .int 3), (2, .int (nI le)), (1, .int (nI mo)), (0, .ref (h3 0))] dX11_passes_234 0 rfl (by decide +kernel) (by decide) rfl ?_
          refine J_goto (tgt := 222) hC dX11_passes_237 (by decide) ?_
          refine J_iload_n hC dX11_passes_222 0 rfl rfl ?_
          refine J_iconst (v := 3) hC dX11_passes_223 rfl ?_
          refine J_ic_ge (tgt := 240) hC dX11_passes_224 (by decide) (fun _ => ?_) (fun c => absurd (by decide) c)
          refine J_hd (S' := s_day S) (by rw [hd4]; exact he_year hv3 hmo hle) ?_
          exact J_vret hC hR dX11_passes_240 (h3, r3) he0 (by rw [hb4.1, hb4.2]) (by decide) (by decide)
        refine J_aload_n hC dX11_passes_128 1 rfl rfl ?_
        refine J_get (v := .ref (h3 4)) hC wu_X11 rfl dX11_passes_129 0 3 (by decide) wf_X11_19 rfl rfl ?_
        refine J_iconst (v := 2) hC dX11_passes_132 rfl ?_
        refine J_iald (i := 2) (v := T3 9 2) hC dX11_passes_133 4 rfl (by decide) (by decide) rfl ?_
        refine J_aload_n hC dX11_passes_134 1 rfl rfl ?_
        refine J_get (v := .ref (h3 4)) hC wu_X11 rfl dX11_passes_135 0 3 (by decide) wf_X11_19 rfl rfl ?_
        refine J_iconst (v := 1) hC dX11_passes_138 rfl ?_
        refine J_iald (i := 1) (v := T3 9 1) hC dX11_passes_139 4 rfl (by decide) (by decide) rfl ?_
        refine J_ic_gt (tgt := 162) hC dX11_passes_140 (by decide) (fun c2 => ?_) (fun c2 => ?_)
        · refine J_aload_n hC dX11_passes_162 1 rfl rfl ?_
          refine J_get (v := .ref (h3 4)) hC wu_X11 rfl dX11_passes_163 0 3 (by decide) wf_X11_19 rfl rfl ?_
          refine J_iconst (v := 1) hC dX11_passes_166 rfl ?_
          refine J_iald (i := 1) (v := T3 9 1) hC dX11_passes_167 4 rfl (by decide) (by decide) rfl ?_
          refine J_aload_n hC dX11_passes_168 1 rfl rfl ?_
          refine J_get (v := .ref (h3 4)) hC wu_X11 rfl dX11_passes_169 0 3 (by decide) wf_X11_19 rfl rfl ?_
          refine J_iconst (v := 0) hC dX11_passes_172 rfl ?_
          refine J_iald (i := 0) (v := T3 9 0) hC dX11_passes_173 4 rfl (by decide) (by decide) rfl ?_
          refine J_ic_gt (tgt := 181) hC dX11_passes_174 (by decide) (fun c4 => ?_) (fun c4 => ?_)
          · refine J_iconst (v := 0) hC dX11_passes_181 rfl ?_
            exact p182 0 (by rw [ll_case, if_neg (fun h9 => Int32.not_le.mpr c2 h9.1), if_neg (Int32.not_le.mpr c4)])
          · refine J_iconst (v := 1) hC dX11_passes_177 rfl ?_
            refine J_goto (tgt := 182) hC dX11_passes_178 (by decide) ?_
            exact p182 1 (by rw [ll_case, if_neg (fun h9 => Int32.not_le.mpr c2 h9.1), if_pos (Int32.not_lt.mp c4)])
        · refine J_aload_n hC dX11_passes_143 1 rfl rfl ?_
          refine J_get (v := .ref (h3 4)) hC wu_X11 rfl dX11_passes_144 0 3 (by decide) wf_X11_19 rfl rfl ?_
          refine J_iconst (v := 2) hC dX11_passes_147 rfl ?_
          refine J_iald (i := 2) (v := T3 9 2) hC dX11_passes_148 4 rfl (by decide) (by decide) rfl ?_
          refine J_aload_n hC dX11_passes_149 1 rfl rfl ?_
          refine J_get (v := .ref (h3 4)) hC wu_X11 rfl dX11_passes_150 0 3 (by decide) wf_X11_19 rfl rfl ?_
          refine J_iconst (v := 0) hC dX11_passes_153 rfl ?_
          refine J_iald (i := 0) (v := T3 9 0) hC dX11_passes_154 4 rfl (by decide) (by decide) rfl ?_
          refine J_ic_gt (tgt := 162) hC dX11_passes_155 (by decide) (fun c3 => ?_) (fun c3 => ?_)
          · refine J_aload_n hC dX11_passes_162 1 rfl rfl ?_
            refine J_get (v := .ref (h3 4)) hC wu_X11 rfl dX11_passes_163 0 3 (by decide) wf_X11_19 rfl rfl ?_
            refine J_iconst (v := 1) hC dX11_passes_166 rfl ?_
            refine J_iald (i := 1) (v := T3 9 1) hC dX11_passes_167 4 rfl (by decide) (by decide) rfl ?_
            refine J_aload_n hC dX11_passes_168 1 rfl rfl ?_
            refine J_get (v := .ref (h3 4)) hC wu_X11 rfl dX11_passes_169 0 3 (by decide) wf_X11_19 rfl rfl ?_
            refine J_iconst (v := 0) hC dX11_passes_172 rfl ?_
            refine J_iald (i := 0) (v := T3 9 0) hC dX11_passes_173 4 rfl (by decide) (by decide) rfl ?_
            refine J_ic_gt (tgt := 181) hC dX11_passes_174 (by decide) (fun c4 => ?_) (fun c4 => ?_)
            · refine J_iconst (v := 0) hC dX11_passes_181 rfl ?_
              exact p182 0 (by rw [ll_case, if_neg (fun h9 => Int32.not_le.mpr c3 h9.2), if_neg (Int32.not_le.mpr c4)])
            · refine J_iconst (v := 1) hC dX11_passes_177 rfl ?_
              refine J_goto (tgt := 182) hC dX11_passes_178 (by decide) ?_
              exact p182 1 (by rw [ll_case, if_neg (fun h9 => Int32.not_le.mpr c3 h9.2), if_pos (Int32.not_lt.mp c4)])
          · refine J_iconst (v := 2) hC dX11_passes_158 rfl ?_
            refine J_goto (tgt := 182) hC dX11_passes_159 (by decide) ?_
            exact p182 2 (by rw [ll_case, if_pos ⟨Int32.not_lt.mp c2, Int32.not_lt.mp c3⟩])
      refine J_aload_n hC dX11_passes_73 1 rfl rfl ?_
      refine J_get (v := .ref (h3 4)) hC wu_X11 rfl dX11_passes_74 0 3 (by decide) wf_X11_19 rfl rfl ?_
      refine J_iconst (v := 0) hC dX11_passes_77 rfl ?_
      refine J_iald (i := 0) (v := T3 9 0) hC dX11_passes_78 4 rfl (by decide) (by decide) rfl ?_
      refine J_aload_n hC dX11_passes_79 1 rfl rfl ?_
      refine J_get (v := .ref (h3 4)) hC wu_X11 rfl dX11_passes_80 0 3 (by decide) wf_X11_19 rfl rfl ?_
      refine J_iconst (v := 1) hC dX11_passes_83 rfl ?_
      refine J_iald (i := 1) (v := T3 9 1) hC dX11_passes_84 4 rfl (by decide) (by decide) rfl ?_
      refine J_ic_lt (tgt := 107) hC dX11_passes_85 (by decide) (fun c2 => ?_) (fun c2 => ?_)
      · refine J_aload_n hC dX11_passes_107 1 rfl rfl ?_
        refine J_get (v := .ref (h3 4)) hC wu_X11 rfl dX11_passes_108 0 3 (by decide) wf_X11_19 rfl rfl ?_
        refine J_iconst (v := 1) hC dX11_passes_111 rfl ?_
        refine J_iald (i := 1) (v := T3 9 1) hC dX11_passes_112 4 rfl (by decide) (by decide) rfl ?_
        refine J_aload_n hC dX11_passes_113 1 rfl rfl ?_
        refine J_get (v := .ref (h3 4)) hC wu_X11 rfl dX11_passes_114 0 3 (by decide) wf_X11_19 rfl rfl ?_
        refine J_iconst (v := 2) hC dX11_passes_117 rfl ?_
        refine J_iald (i := 2) (v := T3 9 2) hC dX11_passes_118 4 rfl (by decide) (by decide) rfl ?_
        refine J_ic_lt (tgt := 126) hC dX11_passes_119 (by decide) (fun c4 => ?_) (fun c4 => ?_)
        · refine J_iconst (v := 2) hC dX11_passes_126 rfl ?_
          exact p127 2 (by rw [fg_case, if_neg (fun h9 => Int32.not_le.mpr c2 h9.1), if_neg (Int32.not_le.mpr c4)])
        · refine J_iconst (v := 1) hC dX11_passes_122 rfl ?_
          refine J_goto (tgt := 127) hC dX11_passes_123 (by decide) ?_
          exact p127 1 (by rw [fg_case, if_neg (fun h9 => Int32.not_le.mpr c2 h9.1), if_pos (Int32.not_lt.mp c4)])
      · refine J_aload_n hC dX11_passes_88 1 rfl rfl ?_
        refine J_get (v := .ref (h3 4)) hC wu_X11 rfl dX11_passes_89 0 3 (by decide) wf_X11_19 rfl rfl ?_
        refine J_iconst (v := 0) hC dX11_passes_92 rfl ?_
        refine J_iald (i := 0) (v := T3 9 0) hC dX11_passes_93 4 rfl (by decide) (by decide) rfl ?_
        refine J_aload_n hC dX11_passes_94 1 rfl rfl ?_
        refine J_get (v := .ref (h3 4)) hC wu_X11 rfl dX11_passes_95 0 3 (by decide) wf_X11_19 rfl rfl ?_
        refine J_iconst (v := 2) hC dX11_passes_98 rfl ?_
        refine J_iald (i := 2) (v := T3 9 2) hC dX11_passes_99 4 rfl (by decide) (by decide) rfl ?_
        refine J_ic_lt (tgt := 107) hC dX11_passes_100 (by decide) (fun c3 => ?_) (fun c3 => ?_)
        · refine J_aload_n hC dX11_passes_107 1 rfl rfl ?_
          refine J_get (v := .ref (h3 4)) hC wu_X11 rfl dX11_passes_108 0 3 (by decide) wf_X11_19 rfl rfl ?_
          refine J_iconst (v := 1) hC dX11_passes_111 rfl ?_
          refine J_iald (i := 1) (v := T3 9 1) hC dX11_passes_112 4 rfl (by decide) (by decide) rfl ?_
          refine J_aload_n hC dX11_passes_113 1 rfl rfl ?_
          refine J_get (v := .ref (h3 4)) hC wu_X11 rfl dX11_passes_114 0 3 (by decide) wf_X11_19 rfl rfl ?_
          refine J_iconst (v := 2) hC dX11_passes_117 rfl ?_
          refine J_iald (i := 2) (v := T3 9 2) hC dX11_passes_118 4 rfl (by decide) (by decide) rfl ?_
          refine J_ic_lt (tgt := 126) hC dX11_passes_119 (by decide) (fun c4 => ?_) (fun c4 => ?_)
          · refine J_iconst (v := 2) hC dX11_passes_126 rfl ?_
            exact p127 2 (by rw [fg_case, if_neg (fun h9 => Int32.not_le.mpr c3 h9.2), if_neg (Int32.not_le.mpr c4)])
          · refine J_iconst (v := 1) hC dX11_passes_122 rfl ?_
            refine J_goto (tgt := 127) hC dX11_passes_123 (by decide) ?_
            exact p127 1 (by rw [fg_case, if_neg (fun h9 => Int32.not_le.mpr c3 h9.2), if_pos (Int32.not_lt.mp c4)])
        · refine J_iconst (v := 0) hC dX11_passes_103 rfl ?_
          refine J_goto (tgt := 127) hC dX11_passes_104 (by decide) ?_
          exact p127 0 (by rw [fg_case, if_pos ⟨Int32.not_lt.mp c2, Int32.not_lt.mp c3⟩])
    · have hd4 : s_day S = T3 := by rw [hd3, s_dayY, if_neg c1]
      exact J_vret hC hR dX11_passes_72 (h3, r3) he0 (by rw [hd4, ← en3, ← em3]) (by decide) (by decide)
  have p1 : ∀ T, HV n mc T → T = s_fairB 0 (us S 16 0 (S 16 0 + 1)) → J x G (hdW G h r n mc T) 0 0 [(1, .int 1), (0, .ref (h 0))] [] 12 := by
    intro T hT hTe
    refine J_iload_n hC dX11_passes_12 0 rfl rfl ?_
    refine J_iconst (v := 2) hC dX11_passes_13 rfl ?_
    refine J_ic_ge (tgt := 44) hC dX11_passes_14 (by decide) (fun c => absurd c (by decide)) (fun _ => ?_)
    refine J_aload_n hC dX11_passes_17 1 rfl rfl ?_
    refine J_get (v := .int (T 16 0)) hC wu_X11 rfl dX11_passes_18 0 11 (by decide) wf_X11_70 rfl rfl ?_
    refine J_iload_n hC dX11_passes_21 0 rfl rfl ?_
    refine J_iadd (v := T 16 0 + 1) hC dX11_passes_22 rfl ?_
    refine J_aload_n hC dX11_passes_23 1 rfl rfl ?_
    refine J_get (v := .ref (h 6)) hC wu_X11 rfl dX11_passes_24 0 5 (by decide) wf_X11_25 rfl rfl ?_
    refine J_iload_n hC dX11_passes_27 0 rfl rfl ?_
    refine J_iald (i := 1) (v := T 5 1) hC dX11_passes_28 6 rfl (by decide) (by decide) rfl ?_
    refine J_irem (v := imod (T 16 0 + 1) (T 5 1)) hC dX11_passes_29 (hT.per (f := 1) (by decide)).1 rfl ?_
    refine J_if_ne (tgt := 38) hC dX11_passes_30 (by decide) (fun c1 => ?_) (fun c1 => ?_)
    · refine J_iinc hC [(1, .int 2), (0, .ref (h 0))] dX11_passes_38 0 rfl (by decide +kernel) (by decide) rfl ?_
      refine J_goto (tgt := 12) hC dX11_passes_41 (by decide) ?_
      exact p2 _ hT (by rw [← hTe, s_fairB, if_neg (fun h9 => c1 h9.2)])
    · refine J_aload_n hC dX11_passes_33 1 rfl rfl ?_
      refine J_iload_n hC dX11_passes_34 0 rfl rfl ?_
      refine J_callVv hC dX11_passes_35 wl_X11_99 yi_X11_fair (c_X11_fair _ G h r n mc T 1 (by decide) hT) rfl rfl 0 11 rfl rfl ⟨Nat.le_of_ble_eq_true rfl, Nat.le_of_ble_eq_true rfl⟩ (Nat.le_of_ble_eq_true rfl) (Nat.le_of_ble_eq_true rfl) (Nat.le_of_ble_eq_true rfl) (fun u9 h9 => ?_)
      refine J_iinc hC [(1, .int 2), (0, .ref (h 0))] dX11_passes_38 0 rfl (by decide +kernel) (by decide) rfl ?_
      refine J_goto (tgt := 12) hC dX11_passes_41 (by decide) ?_
      exact p2 _ (sellAt_hv hT (by decide)) (by rw [← hTe, s_fairB, if_pos ⟨(hT.per (f := 1) (by decide)).2, c1⟩, hT.bc, hT.vc])
  have hT := hS1
  refine J_iload_n hC dX11_passes_12 0 rfl rfl ?_
  refine J_iconst (v := 2) hC dX11_passes_13 rfl ?_
  refine J_ic_ge (tgt := 44) hC dX11_passes_14 (by decide) (fun c => absurd c (by decide)) (fun _ => ?_)
  refine J_aload_n hC dX11_passes_17 1 rfl rfl ?_
  refine J_get (v := .int ((us S 16 0 (S 16 0 + 1)) 16 0)) hC wu_X11 rfl dX11_passes_18 0 11 (by decide) wf_X11_70 rfl rfl ?_
  refine J_iload_n hC dX11_passes_21 0 rfl rfl ?_
  refine J_iadd (v := (us S 16 0 (S 16 0 + 1)) 16 0 + 0) hC dX11_passes_22 rfl ?_
  refine J_aload_n hC dX11_passes_23 1 rfl rfl ?_
  refine J_get (v := .ref (h 6)) hC wu_X11 rfl dX11_passes_24 0 5 (by decide) wf_X11_25 rfl rfl ?_
  refine J_iload_n hC dX11_passes_27 0 rfl rfl ?_
  refine J_iald (i := 0) (v := (us S 16 0 (S 16 0 + 1)) 5 0) hC dX11_passes_28 6 rfl (by decide) (by decide) rfl ?_
  refine J_irem (v := imod ((us S 16 0 (S 16 0 + 1)) 16 0 + 0) ((us S 16 0 (S 16 0 + 1)) 5 0)) hC dX11_passes_29 (hT.per (f := 0) (by decide)).1 rfl ?_
  refine J_if_ne (tgt := 38) hC dX11_passes_30 (by decide) (fun c1 => ?_) (fun c1 => ?_)
  · refine J_iinc hC [(1, .int 1), (0, .ref (h 0))] dX11_passes_38 0 rfl (by decide +kernel) (by decide) rfl ?_
    refine J_goto (tgt := 12) hC dX11_passes_41 (by decide) ?_
    exact p1 _ hT (by rw [s_fairB, if_neg (fun h9 => c1 h9.2)])
  · refine J_aload_n hC dX11_passes_33 1 rfl rfl ?_
    refine J_iload_n hC dX11_passes_34 0 rfl rfl ?_
    refine J_callVv hC dX11_passes_35 wl_X11_99 yi_X11_fair (c_X11_fair _ G h r n mc (us S 16 0 (S 16 0 + 1)) 0 (by decide) hT) rfl rfl 0 11 rfl rfl ⟨Nat.le_of_ble_eq_true rfl, Nat.le_of_ble_eq_true rfl⟩ (Nat.le_of_ble_eq_true rfl) (Nat.le_of_ble_eq_true rfl) (Nat.le_of_ble_eq_true rfl) (fun u9 h9 => ?_)
    refine J_iinc hC [(1, .int 1), (0, .ref (h 0))] dX11_passes_38 0 rfl (by decide +kernel) (by decide) rfl ?_
    refine J_goto (tgt := 12) hC dX11_passes_41 (by decide) ?_
    exact p1 _ (sellAt_hv hT (by decide)) (by rw [s_fairB, if_pos ⟨(hT.per (f := 0) (by decide)).2, c1⟩, hT.bc, hT.vc])


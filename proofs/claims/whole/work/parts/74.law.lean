abbrev RM1 : Room := { frames := 14, cells := 601024, slots := 7293034, locals := 512 }
/-- what the law's walk stands on -/
def LX (x : JX) (G : gT) (w0 : Cond) (b L : Nat) (xs : Nat → Int32) : Prop := JC x G RM1 cL_law w0 RL 10 ∧ (jl x).stackTraces = false ∧ xT (js x) ∧ xN (js x) ∧ va_X b L xs (js x) (jH x) ∧ b < (jH x).size ∧ ¬ jA x b ∧ L ≤ 3072
abbrev lvL (b : Nat) (u : Nat → Nat → Nat) (m : Nat → Nat) (ol od c : Nat) : List (Nat × Value) := [(0, .ref b), (1, .ref (u 4 0)), (2, .ref (m 0)), (3, .ref ol), (4, .ref od), (5, .int (nI (6 * c)))]
/-- the way on behind a case -/
def LK (x : JX) (G : gT) (b ol od : Nat) (u : Nat → Nat → Nat) (m : Nat → Nat) (c k n : Nat) : Prop := ∀ z M f g, REL (c + 1) z M → J x G (LW G ol od u m z M f g) (k + 4) (n + 24) (lvL b u m ol od c) [] 2975

set_option maxRecDepth 100000 in
set_option maxHeartbeats 4000000 in
theorem k_appendInput {x : JX} {G : gT} {w0 : Cond} {b L : Nat} {xs : Nat → Int32} (hX : LX x G w0 b L xs) {ol od : Nat} {u : Nat → Nat → Nat} {m : Nat → Nat} {z : OS} {M : CT} {f : Nat → Int64} {g : Nat → UInt64} {c k n : Nat} (hp : 6 * c + 6 ≤ L) (h : REL c z M) (hk : k ≤ 600000) (hn : n ≤ 7200000) (kk : LK x G b ol od u m c k n) : J x G (LW G ol od u m z M f g) k n (lvL b u m ol od c) [] 300 := by
  obtain ⟨hC, hst, hxT, hxN, hX, hbl, hbA, hL⟩ := hX
  have hc : c ≤ 600 := by omega
  refine J_aload_n hC dL_law_300 1 rfl rfl ?_
  refine J_aload_n hC dL_law_301 0 rfl rfl ?_
  refine J_iload hC dL_law_302 5 rfl ?_
  refine J_iconst (v := nI 1) hC dL_law_304 rfl ?_
  refine J_iadd (v := nI (6 * c + 1)) hC dL_law_305 (nI_add _ _) ?_
  refine J_sald (v := xs (6 * c + 1)) hC hX hbl hbA dL_law_306 (by omega) (by omega) rfl ?_
  refine J_aload_n hC dL_law_307 0 rfl rfl ?_
  refine J_iload hC dL_law_308 5 rfl ?_
  refine J_iconst (v := nI 2) hC dL_law_310 rfl ?_
  refine J_iadd (v := nI (6 * c + 2)) hC dL_law_311 (nI_add _ _) ?_
  refine J_sald (v := xs (6 * c + 2)) hC hX hbl hbA dL_law_312 (by omega) (by omega) rfl ?_
  refine J_aload_n hC dL_law_313 0 rfl rfl ?_
  refine J_iload hC dL_law_314 5 rfl ?_
  refine J_iconst (v := nI 3) hC dL_law_316 rfl ?_
  refine J_iadd (v := nI (6 * c + 3)) hC dL_law_317 (nI_add _ _) ?_
  refine J_sald (v := xs (6 * c + 3)) hC hX hbl hbA dL_law_318 (by omega) (by omega) rfl ?_
  refine J_aload_n hC dL_law_319 0 rfl rfl ?_
  refine J_iload hC dL_law_320 5 rfl ?_
  refine J_iconst (v := nI 4) hC dL_law_322 rfl ?_
  refine J_iadd (v := nI (6 * c + 4)) hC dL_law_323 (nI_add _ _) ?_
  refine J_sald (v := xs (6 * c + 4)) hC hX hbl hbA dL_law_324 (by omega) (by omega) rfl ?_
  refine J_aload_n hC dL_law_325 0 rfl rfl ?_
  refine J_iload hC dL_law_326 5 rfl ?_
  refine J_iconst (v := nI 5) hC dL_law_328 rfl ?_
  refine J_iadd (v := nI (6 * c + 5)) hC dL_law_329 (nI_add _ _) ?_
  refine J_sald (v := xs (6 * c + 5)) hC hX hbl hbA dL_law_330 (by omega) (by omega) rfl ?_
  refine J_aload_n hC dL_law_331 3 rfl rfl ?_
  refine J_callW hC hxT hxN dL_law_332 wl_L_143 yw_appendInput (lw_i (u := u) (m := m) (z := z) (z1 := fun (w : Unit) => zIn z (b_app (xs (6 * c + 1)) (xs (6 * c + 2)) (xs (6 * c + 3)) (xs (6 * c + 4)) (xs (6 * c + 5)) (zi z))) (z2 := fun (_ : Unit) => z) (w_appendInput (jl x) G (ofW G u z) (u 4 0) ol _ (of_0 G u z) (xs (6 * c + 1)) (xs (6 * c + 2)) (xs (6 * c + 3)) (xs (6 * c + 4)) (xs (6 * c + 5)) f (b_appendInput (jl x) G u z (xs (6 * c + 1)) (xs (6 * c + 2)) (xs (6 * c + 3)) (xs (6 * c + 4)) (xs (6 * c + 5)) h.qi hst) (fun _ _ => rfl))) rfl rfl ⟨Nat.le_of_ble_eq_true rfl, Nat.le_of_ble_eq_true rfl⟩ (Nat.le_of_ble_eq_true rfl) (show k + 1 ≤ 601024 by omega) (show n + 6 ≤ 7293034 by omega) (fun r v hv => ?_)
  obtain ⟨z9, hz9⟩ : ∃ q, q = zW (fun (w : Unit) => zIn z (b_app (xs (6 * c + 1)) (xs (6 * c + 2)) (xs (6 * c + 3)) (xs (6 * c + 4)) (xs (6 * c + 5)) (zi z))) (fun (_ : Unit) => z) v := ⟨_, rfl⟩
  obtain ⟨f9, hf9⟩ : ∃ q, q = fW f v := ⟨_, rfl⟩
  refine J_wq (show _ = LW G ol od u m z9 M f9 g from by rw [hz9, hf9]) ?_
  refine J_istore hC [(6, .int r), (0, .ref b), (1, .ref (u 4 0)), (2, .ref (m 0)), (3, .ref ol), (4, .ref od), (5, .int (nI (6 * c)))] dL_law_335 (by decide) rfl ?_
  refine J_aload_n hC dL_law_337 3 rfl rfl ?_
  refine J_aload_n hC dL_law_338 1 rfl rfl ?_
  refine J_iload hC dL_law_339 6 rfl ?_
  refine J_iconst (v := nI 1) hC dL_law_341 rfl ?_
  refine J_iadd (v := nI (6 * c + 1)) hC dL_law_342 (nI_add _ _) ?_
  refine J_sald (v := xs (6 * c + 1)) hC hX hbl hbA dL_law_343 (by omega) (by omega) rfl ?_
  refine J_aload_n hC dL_law_344 1 rfl rfl ?_
  refine J_iload hC dL_law_345 6 rfl ?_
  refine J_iconst (v := nI 2) hC dL_law_347 rfl ?_
  refine J_iadd (v := nI (6 * c + 2)) hC dL_law_348 (nI_add _ _) ?_
  refine J_sald (v := xs (6 * c + 2)) hC hX hbl hbA dL_law_349 (by omega) (by omega) rfl ?_
  refine J_aload_n hC dL_law_350 1 rfl rfl ?_
  refine J_iload hC dL_law_351 6 rfl ?_
  refine J_iconst (v := nI 3) hC dL_law_353 rfl ?_
  refine J_iadd (v := nI (6 * c + 3)) hC dL_law_354 (nI_add _ _) ?_
  refine J_sald (v := xs (6 * c + 3)) hC hX hbl hbA dL_law_355 (by omega) (by omega) rfl ?_
  refine J_aload_n hC dL_law_356 1 rfl rfl ?_
  refine J_iload hC dL_law_357 6 rfl ?_
  refine J_iconst (v := nI 4) hC dL_law_359 rfl ?_
  refine J_iadd (v := nI (6 * c + 4)) hC dL_law_360 (nI_add _ _) ?_
  refine J_sald (v := xs (6 * c + 4)) hC hX hbl hbA dL_law_361 (by omega) (by omega) rfl ?_
  refine J_aload_n hC dL_law_362 1 rfl rfl ?_
  refine J_iload hC dL_law_363 6 rfl ?_
  refine J_iconst (v := nI 5) hC dL_law_365 rfl ?_
  refine J_iadd (v := nI (6 * c + 5)) hC dL_law_366 (nI_add _ _) ?_
  refine J_sald (v := xs (6 * c + 5)) hC hX hbl hbA dL_law_367 (by omega) (by omega) rfl ?_
  obtain ⟨fs2, hm2⟩ := lw_m G ol od u m z9 M f9 g
  refine J_callVi hC dL_law_368 wl_L_148 yi_X11_appendInput (lm_i (c_X11_appendInput _ G m M (cl (M 8 3)) (xs (6 * c + 1)) (xs (6 * c + 2)) (xs (6 * c + 3)) (xs (6 * c + 4)) (xs (6 * c + 5)) h.il.1 h.il.2)) rfl rfl 275 11 hm2 rfl ⟨Nat.le_of_ble_eq_true rfl, Nat.le_of_ble_eq_true rfl⟩ (Nat.le_of_ble_eq_true rfl) (show k + 1 + 0 ≤ 601024 by omega) (show n + 6 + 0 ≤ 7293034 by omega) (fun r2 M2 h2 => ?_)
  obtain ⟨q1, q2, q3⟩ := eq_appendInput h hc (f := f) (xs (6 * c + 1)) (xs (6 * c + 2)) (xs (6 * c + 3)) (xs (6 * c + 4)) (xs (6 * c + 5)) hv h2
  rw [← hz9] at q3
  rw [← hf9] at q2
  refine J_istore hC [(7, .int r2), (6, .int r), (0, .ref b), (1, .ref (u 4 0)), (2, .ref (m 0)), (3, .ref ol), (4, .ref od), (5, .int (nI (6 * c)))] dL_law_371 (by decide) rfl ?_
  refine J_aload_n hC dL_law_373 4 rfl rfl ?_
  obtain ⟨fs3, hm3⟩ := lw_m G ol od u m z9 M2 f9 g
  refine J_callVi hC dL_law_374 wl_L_149 yi_X11_thrown (lm_i (c_X11_thrown _ G m M2)) rfl rfl 275 11 hm3 rfl ⟨Nat.le_of_ble_eq_true rfl, Nat.le_of_ble_eq_true rfl⟩ (Nat.le_of_ble_eq_true rfl) (show k + 1 + 0 + 0 ≤ 601024 by omega) (show n + 6 + 0 + 0 ≤ 7293034 by omega) (fun r3 u3 h3 => ?_)
  refine J_wq (show _ = LW G ol od u m z9 M2 f9 g from rfl) ?_
  subst h3
  refine J_iload hC dL_law_377 1 rfl ?_
  refine J_ic_eq (tgt := 384) hC dL_law_379 (by decide) (fun _ => ?_) (fun c9 => absurd q1 c9)
  refine J_iload hC dL_law_384 1 rfl ?_
  refine J_if_ne (tgt := 401) hC dL_law_386 (by decide) (fun c9 => ?_) (fun c9 => ?_)
  · refine J_goto (tgt := 2975) hC dL_law_401 (by decide) ?_
    refine J_lv (lv' := lvL b u m ol od c) [2, 3, 4, 5, 6, 7] rfl ?_
    refine J_wid (k' := k + 4) (n' := n + 24) (show k + 1 + 0 + 0 ≤ k + 4 by omega) (show n + 6 + 0 + 0 ≤ n + 24 by omega) ?_
    exact kk z9 M2 f9 g q3
  · refine J_aload_n hC dL_law_389 5 rfl rfl ?_
    refine J_iconst (v := nI 0) hC dL_law_390 rfl ?_
    refine J_lald (i := 0) (v := f9 0) hC dL_law_391 0 rfl (by decide) (by decide) rfl ?_
    refine J_iload hC dL_law_392 0 rfl ?_
    refine J_i2l (v := r2.toInt64) hC dL_law_394 rfl ?_
    refine J_lcmp hC dL_law_395 ?_
    refine J_topi (show lg_cmp (f9 0) r2.toInt64 = 0 from by rw [q2 c9]; exact lg_cmp_self _) ?_
    refine J_if_eq (tgt := 401) hC dL_law_396 (by decide) (fun _ => ?_) (fun c8 => absurd rfl c8)
    refine J_goto (tgt := 2975) hC dL_law_401 (by decide) ?_
    refine J_lv (lv' := lvL b u m ol od c) [2, 3, 4, 5, 6, 7] rfl ?_
    refine J_wid (k' := k + 4) (n' := n + 24) (show k + 1 + 0 + 0 ≤ k + 4 by omega) (show n + 6 + 0 + 0 ≤ n + 24 by omega) ?_
    exact kk z9 M2 f9 g q3

set_option maxRecDepth 100000 in
set_option maxHeartbeats 4000000 in
theorem k_truncateInput {x : JX} {G : gT} {w0 : Cond} {b L : Nat} {xs : Nat → Int32} (hX : LX x G w0 b L xs) {ol od : Nat} {u : Nat → Nat → Nat} {m : Nat → Nat} {z : OS} {M : CT} {f : Nat → Int64} {g : Nat → UInt64} {c k n : Nat} (hp : 6 * c + 6 ≤ L) (h : REL c z M) (hk : k ≤ 600000) (hn : n ≤ 7200000) (kk : LK x G b ol od u m c k n) : J x G (LW G ol od u m z M f g) k n (lvL b u m ol od c) [] 404 := by
  obtain ⟨hC, hst, hxT, hxN, hX, hbl, hbA, hL⟩ := hX
  have hc : c ≤ 600 := by omega
  refine J_aload_n hC dL_law_404 1 rfl rfl ?_
  refine J_aload_n hC dL_law_405 0 rfl rfl ?_
  refine J_iload hC dL_law_406 5 rfl ?_
  refine J_iconst (v := nI 1) hC dL_law_408 rfl ?_
  refine J_iadd (v := nI (6 * c + 1)) hC dL_law_409 (nI_add _ _) ?_
  refine J_sald (v := xs (6 * c + 1)) hC hX hbl hbA dL_law_410 (by omega) (by omega) rfl ?_
  refine J_aload_n hC dL_law_411 3 rfl rfl ?_
  refine J_callW hC hxT hxN dL_law_412 wl_L_152 yw_truncateInput (lw_i (u := u) (m := m) (z := z) (z1 := fun (w : Nat) => zIn z ((zi z).1, w)) (z2 := fun (_ : Unit) => z) (w_truncateInput (jl x) G (ofW G u z) (u 4 0) ol _ (of_0 G u z) (xs (6 * c + 1)) f (b_truncateInput (jl x) G u z (xs (6 * c + 1)) h.qi hst) (fun _ _ => rfl))) rfl rfl ⟨Nat.le_of_ble_eq_true rfl, Nat.le_of_ble_eq_true rfl⟩ (Nat.le_of_ble_eq_true rfl) (show k + 1 ≤ 601024 by omega) (show n + 6 ≤ 7293034 by omega) (fun r v hv => ?_)
  obtain ⟨z9, hz9⟩ : ∃ q, q = zW (fun (w : Nat) => zIn z ((zi z).1, w)) (fun (_ : Unit) => z) v := ⟨_, rfl⟩
  obtain ⟨f9, hf9⟩ : ∃ q, q = fW f v := ⟨_, rfl⟩
  refine J_wq (show _ = LW G ol od u m z9 M f9 g from by rw [hz9, hf9]) ?_
  refine J_istore hC [(6, .int r), (0, .ref b), (1, .ref (u 4 0)), (2, .ref (m 0)), (3, .ref ol), (4, .ref od), (5, .int (nI (6 * c)))] dL_law_415 (by decide) rfl ?_
  refine J_aload_n hC dL_law_417 3 rfl rfl ?_
  refine J_aload_n hC dL_law_418 1 rfl rfl ?_
  refine J_iload hC dL_law_419 6 rfl ?_
  refine J_iconst (v := nI 1) hC dL_law_421 rfl ?_
  refine J_iadd (v := nI (6 * c + 1)) hC dL_law_422 (nI_add _ _) ?_
  refine J_sald (v := xs (6 * c + 1)) hC hX hbl hbA dL_law_423 (by omega) (by omega) rfl ?_
  obtain ⟨fs2, hm2⟩ := lw_m G ol od u m z9 M f9 g
  refine J_callVi hC dL_law_424 wl_L_155 yi_X11_truncateInput (lm_i (c_X11_truncateInput _ G m M (cl (M 8 3)) (xs (6 * c + 1)) h.il.1 h.il.2)) rfl rfl 275 11 hm2 rfl ⟨Nat.le_of_ble_eq_true rfl, Nat.le_of_ble_eq_true rfl⟩ (Nat.le_of_ble_eq_true rfl) (show k + 1 + 0 ≤ 601024 by omega) (show n + 6 + 0 ≤ 7293034 by omega) (fun r2 M2 h2 => ?_)
  obtain ⟨q1, q2, q3⟩ := eq_truncateInput h hc (f := f) (xs (6 * c + 1)) hv h2
  rw [← hz9] at q3
  rw [← hf9] at q2
  refine J_istore hC [(7, .int r2), (6, .int r), (0, .ref b), (1, .ref (u 4 0)), (2, .ref (m 0)), (3, .ref ol), (4, .ref od), (5, .int (nI (6 * c)))] dL_law_427 (by decide) rfl ?_
  refine J_aload_n hC dL_law_429 4 rfl rfl ?_
  obtain ⟨fs3, hm3⟩ := lw_m G ol od u m z9 M2 f9 g
  refine J_callVi hC dL_law_430 wl_L_149 yi_X11_thrown (lm_i (c_X11_thrown _ G m M2)) rfl rfl 275 11 hm3 rfl ⟨Nat.le_of_ble_eq_true rfl, Nat.le_of_ble_eq_true rfl⟩ (Nat.le_of_ble_eq_true rfl) (show k + 1 + 0 + 0 ≤ 601024 by omega) (show n + 6 + 0 + 0 ≤ 7293034 by omega) (fun r3 u3 h3 => ?_)
  refine J_wq (show _ = LW G ol od u m z9 M2 f9 g from rfl) ?_
  subst h3
  refine J_iload hC dL_law_433 1 rfl ?_
  refine J_ic_eq (tgt := 440) hC dL_law_435 (by decide) (fun _ => ?_) (fun c9 => absurd q1 c9)
  refine J_iload hC dL_law_440 1 rfl ?_
  refine J_if_ne (tgt := 457) hC dL_law_442 (by decide) (fun c9 => ?_) (fun c9 => ?_)
  · refine J_goto (tgt := 2975) hC dL_law_457 (by decide) ?_
    refine J_lv (lv' := lvL b u m ol od c) [2, 3, 4, 5, 6, 7] rfl ?_
    refine J_wid (k' := k + 4) (n' := n + 24) (show k + 1 + 0 + 0 ≤ k + 4 by omega) (show n + 6 + 0 + 0 ≤ n + 24 by omega) ?_
    exact kk z9 M2 f9 g q3
  · refine J_aload_n hC dL_law_445 5 rfl rfl ?_
    refine J_iconst (v := nI 0) hC dL_law_446 rfl ?_
    refine J_lald (i := 0) (v := f9 0) hC dL_law_447 0 rfl (by decide) (by decide) rfl ?_
    refine J_iload hC dL_law_448 0 rfl ?_
    refine J_i2l (v := r2.toInt64) hC dL_law_450 rfl ?_
    refine J_lcmp hC dL_law_451 ?_
    refine J_topi (show lg_cmp (f9 0) r2.toInt64 = 0 from by rw [q2 c9]; exact lg_cmp_self _) ?_
    refine J_if_eq (tgt := 457) hC dL_law_452 (by decide) (fun _ => ?_) (fun c8 => absurd rfl c8)
    refine J_goto (tgt := 2975) hC dL_law_457 (by decide) ?_
    refine J_lv (lv' := lvL b u m ol od c) [2, 3, 4, 5, 6, 7] rfl ?_
    refine J_wid (k' := k + 4) (n' := n + 24) (show k + 1 + 0 + 0 ≤ k + 4 by omega) (show n + 6 + 0 + 0 ≤ n + 24 by omega) ?_
    exact kk z9 M2 f9 g q3

set_option maxRecDepth 100000 in
set_option maxHeartbeats 4000000 in
theorem k_load {x : JX} {G : gT} {w0 : Cond} {b L : Nat} {xs : Nat → Int32} (hX : LX x G w0 b L xs) {ol od : Nat} {u : Nat → Nat → Nat} {m : Nat → Nat} {z : OS} {M : CT} {f : Nat → Int64} {g : Nat → UInt64} {c k n : Nat} (hp : 6 * c + 6 ≤ L) (h : REL c z M) (hk : k ≤ 600000) (hn : n ≤ 7200000) (kk : LK x G b ol od u m c k n) : J x G (LW G ol od u m z M f g) k n (lvL b u m ol od c) [] 460 := by
  obtain ⟨hC, hst, hxT, hxN, hX, hbl, hbA, hL⟩ := hX
  have hc : c ≤ 600 := by omega
  refine J_aload_n hC dL_law_460 1 rfl rfl ?_
  refine J_aload_n hC dL_law_461 3 rfl rfl ?_
  obtain ⟨t9, ht9⟩ : ∃ q, q = ztx z := ⟨_, rfl⟩
  refine J_callW hC hxT hxN dL_law_462 wl_L_156 yw_load (lw_i (u := u) (m := m) (z := z) (z1 := fun (w : Unit) => zLd z t9) (z2 := fun (_ : Unit) => zLf z t9) (w_load (jl x) G (ofW G u z) (u 4 0) ol _ (of_0 G u z)  f (b_load (jl x) G u z  h.hn h.hk h.qi t9 ht9 hst) (fun _ _ => rfl))) rfl rfl ⟨Nat.le_of_ble_eq_true rfl, Nat.le_of_ble_eq_true rfl⟩ (Nat.le_of_ble_eq_true rfl) (show k + 3 ≤ 601024 by omega) (show n + 15 ≤ 7293034 by omega) (fun r v hv => ?_)
  obtain ⟨z9, hz9⟩ : ∃ q, q = zW (fun (w : Unit) => zLd z t9) (fun (_ : Unit) => zLf z t9) v := ⟨_, rfl⟩
  obtain ⟨f9, hf9⟩ : ∃ q, q = fW f v := ⟨_, rfl⟩
  refine J_wq (show _ = LW G ol od u m z9 M f9 g from by rw [hz9, hf9]) ?_
  refine J_istore hC [(6, .int r), (0, .ref b), (1, .ref (u 4 0)), (2, .ref (m 0)), (3, .ref ol), (4, .ref od), (5, .int (nI (6 * c)))] dL_law_465 (by decide) rfl ?_
  refine J_aload_n hC dL_law_467 3 rfl rfl ?_
  obtain ⟨fs2, hm2⟩ := lw_m G ol od u m z9 M f9 g
  refine J_callVi hC dL_law_468 wl_L_159 yi_X11_load (lm_i (c_X11_load _ G m M (cl (M 8 3)) (cl (M 8 0)) (cl (M 8 1)) h.il.1 h.il.2 h.un.1 h.un.2 h.u0.1 h.u0.2 h.fi)) rfl rfl 275 11 hm2 rfl ⟨Nat.le_of_ble_eq_true rfl, Nat.le_of_ble_eq_true rfl⟩ (Nat.le_of_ble_eq_true rfl) (show k + 3 + 0 ≤ 601024 by omega) (show n + 15 + 0 ≤ 7293034 by omega) (fun r2 M2 h2 => ?_)
  obtain ⟨q1, q2, q3⟩ := eq_load h hc (f := f)  t9 ht9 hv h2
  rw [← hz9] at q3
  rw [← hf9] at q2
  refine J_istore hC [(7, .int r2), (6, .int r), (0, .ref b), (1, .ref (u 4 0)), (2, .ref (m 0)), (3, .ref ol), (4, .ref od), (5, .int (nI (6 * c)))] dL_law_471 (by decide) rfl ?_
  refine J_aload_n hC dL_law_473 4 rfl rfl ?_
  obtain ⟨fs3, hm3⟩ := lw_m G ol od u m z9 M2 f9 g
  refine J_callVi hC dL_law_474 wl_L_149 yi_X11_thrown (lm_i (c_X11_thrown _ G m M2)) rfl rfl 275 11 hm3 rfl ⟨Nat.le_of_ble_eq_true rfl, Nat.le_of_ble_eq_true rfl⟩ (Nat.le_of_ble_eq_true rfl) (show k + 3 + 0 + 0 ≤ 601024 by omega) (show n + 15 + 0 + 0 ≤ 7293034 by omega) (fun r3 u3 h3 => ?_)
  refine J_wq (show _ = LW G ol od u m z9 M2 f9 g from rfl) ?_
  subst h3
  refine J_iload hC dL_law_477 1 rfl ?_
  refine J_ic_eq (tgt := 484) hC dL_law_479 (by decide) (fun _ => ?_) (fun c9 => absurd q1 c9)
  refine J_iload hC dL_law_484 1 rfl ?_
  refine J_if_ne (tgt := 501) hC dL_law_486 (by decide) (fun c9 => ?_) (fun c9 => ?_)
  · refine J_goto (tgt := 2975) hC dL_law_501 (by decide) ?_
    refine J_lv (lv' := lvL b u m ol od c) [2, 3, 4, 5, 6, 7] rfl ?_
    refine J_wid (k' := k + 4) (n' := n + 24) (show k + 3 + 0 + 0 ≤ k + 4 by omega) (show n + 15 + 0 + 0 ≤ n + 24 by omega) ?_
    exact kk z9 M2 f9 g q3
  · refine J_aload_n hC dL_law_489 5 rfl rfl ?_
    refine J_iconst (v := nI 0) hC dL_law_490 rfl ?_
    refine J_lald (i := 0) (v := f9 0) hC dL_law_491 0 rfl (by decide) (by decide) rfl ?_
    refine J_iload hC dL_law_492 0 rfl ?_
    refine J_i2l (v := r2.toInt64) hC dL_law_494 rfl ?_
    refine J_lcmp hC dL_law_495 ?_
    refine J_topi (show lg_cmp (f9 0) r2.toInt64 = 0 from by rw [q2 c9]; exact lg_cmp_self _) ?_
    refine J_if_eq (tgt := 501) hC dL_law_496 (by decide) (fun _ => ?_) (fun c8 => absurd rfl c8)
    refine J_goto (tgt := 2975) hC dL_law_501 (by decide) ?_
    refine J_lv (lv' := lvL b u m ol od c) [2, 3, 4, 5, 6, 7] rfl ?_
    refine J_wid (k' := k + 4) (n' := n + 24) (show k + 3 + 0 + 0 ≤ k + 4 by omega) (show n + 15 + 0 + 0 ≤ n + 24 by omega) ?_
    exact kk z9 M2 f9 g q3

set_option maxRecDepth 100000 in
set_option maxHeartbeats 4000000 in
theorem k_errorCode {x : JX} {G : gT} {w0 : Cond} {b L : Nat} {xs : Nat → Int32} (hX : LX x G w0 b L xs) {ol od : Nat} {u : Nat → Nat → Nat} {m : Nat → Nat} {z : OS} {M : CT} {f : Nat → Int64} {g : Nat → UInt64} {c k n : Nat} (hp : 6 * c + 6 ≤ L) (h : REL c z M) (hk : k ≤ 600000) (hn : n ≤ 7200000) (kk : LK x G b ol od u m c k n) : J x G (LW G ol od u m z M f g) k n (lvL b u m ol od c) [] 504 := by
  obtain ⟨hC, hst, hxT, hxN, hX, hbl, hbA, hL⟩ := hX
  have hc : c ≤ 600 := by omega
  refine J_aload_n hC dL_law_504 1 rfl rfl ?_
  refine J_callVi hC dL_law_505 wl_L_160 yi_X10_errorCode (lo_i (c_X10_errorCode _ G (u 4 0) (oR u) (u 0) (zS z) (zc z) (zp z) h.ci) (pf_o G u z)) rfl rfl 1 10 (lw_o G ol od u m z M f g) rfl ⟨Nat.le_of_ble_eq_true rfl, Nat.le_of_ble_eq_true rfl⟩ (Nat.le_of_ble_eq_true rfl) (show k + 0 ≤ 601024 by omega) (show n + 0 ≤ 7293034 by omega) (fun r1 u1 h1 => ?_)
  refine J_wq (show _ = LW G ol od u m z M f g from rfl) ?_
  refine J_aload_n hC dL_law_508 2 rfl rfl ?_
  obtain ⟨fs2, hm2⟩ := lw_m G ol od u m z M f g
  refine J_callVi hC dL_law_509 wl_L_163 yi_X11_errorCode (lm_i (F := fun _ => (us M 8 2 0)) (c_X11_errorCode _ G m M )) rfl rfl 275 11 hm2 rfl ⟨Nat.le_of_ble_eq_true rfl, Nat.le_of_ble_eq_true rfl⟩ (Nat.le_of_ble_eq_true rfl) (show k + 0 + 0 ≤ 601024 by omega) (show n + 0 + 0 ≤ 7293034 by omega) (fun r2 u2 h2 => ?_)
  refine J_wq (show _ = LW G ol od u m z (us M 8 2 0) f g from rfl) ?_
  have q1 : r1 = r2 := eq_errorCode h hc h1 h2
  refine J_ic_eq (tgt := 2975) hC dL_law_512 (by decide) (fun _ => ?_) (fun c9 => absurd q1 c9)
  refine J_wid (k' := k + 4) (n' := n + 24) (show k + 0 + 0 ≤ k + 4 by omega) (show n + 0 + 0 ≤ n + 24 by omega) ?_
  exact kk z (us M 8 2 0) f g (h.thr 0)

set_option maxRecDepth 100000 in
set_option maxHeartbeats 4000000 in
theorem k_errorPosition {x : JX} {G : gT} {w0 : Cond} {b L : Nat} {xs : Nat → Int32} (hX : LX x G w0 b L xs) {ol od : Nat} {u : Nat → Nat → Nat} {m : Nat → Nat} {z : OS} {M : CT} {f : Nat → Int64} {g : Nat → UInt64} {c k n : Nat} (hp : 6 * c + 6 ≤ L) (h : REL c z M) (hk : k ≤ 600000) (hn : n ≤ 7200000) (kk : LK x G b ol od u m c k n) : J x G (LW G ol od u m z M f g) k n (lvL b u m ol od c) [] 517 := by
  obtain ⟨hC, hst, hxT, hxN, hX, hbl, hbA, hL⟩ := hX
  have hc : c ≤ 600 := by omega
  refine J_aload_n hC dL_law_517 1 rfl rfl ?_
  refine J_callVi hC dL_law_518 wl_L_164 yi_X10_errorPosition (lo_i (c_X10_errorPosition _ G (u 4 0) (oR u) (u 0) (zS z) (zc z) (zp z) h.ci) (pf_o G u z)) rfl rfl 1 10 (lw_o G ol od u m z M f g) rfl ⟨Nat.le_of_ble_eq_true rfl, Nat.le_of_ble_eq_true rfl⟩ (Nat.le_of_ble_eq_true rfl) (show k + 0 ≤ 601024 by omega) (show n + 0 ≤ 7293034 by omega) (fun r1 u1 h1 => ?_)
  refine J_wq (show _ = LW G ol od u m z M f g from rfl) ?_
  refine J_aload_n hC dL_law_521 2 rfl rfl ?_
  obtain ⟨fs2, hm2⟩ := lw_m G ol od u m z M f g
  refine J_callVi hC dL_law_522 wl_L_167 yi_X11_errorPosition (lm_i (F := fun _ => (us M 8 2 0)) (c_X11_errorPosition _ G m M )) rfl rfl 275 11 hm2 rfl ⟨Nat.le_of_ble_eq_true rfl, Nat.le_of_ble_eq_true rfl⟩ (Nat.le_of_ble_eq_true rfl) (show k + 0 + 0 ≤ 601024 by omega) (show n + 0 + 0 ≤ 7293034 by omega) (fun r2 u2 h2 => ?_)
  refine J_wq (show _ = LW G ol od u m z (us M 8 2 0) f g from rfl) ?_
  have q1 : r1 = r2 := eq_errorPosition h hc h1 h2
  refine J_ic_eq (tgt := 2975) hC dL_law_525 (by decide) (fun _ => ?_) (fun c9 => absurd q1 c9)
  refine J_wid (k' := k + 4) (n' := n + 24) (show k + 0 + 0 ≤ k + 4 by omega) (show n + 0 + 0 ≤ n + 24 by omega) ?_
  exact kk z (us M 8 2 0) f g (h.thr 0)

set_option maxRecDepth 100000 in
set_option maxHeartbeats 4000000 in
theorem k_day {x : JX} {G : gT} {w0 : Cond} {b L : Nat} {xs : Nat → Int32} (hX : LX x G w0 b L xs) {ol od : Nat} {u : Nat → Nat → Nat} {m : Nat → Nat} {z : OS} {M : CT} {f : Nat → Int64} {g : Nat → UInt64} {c k n : Nat} (hp : 6 * c + 6 ≤ L) (h : REL c z M) (hk : k ≤ 600000) (hn : n ≤ 7200000) (kk : LK x G b ol od u m c k n) : J x G (LW G ol od u m z M f g) k n (lvL b u m ol od c) [] 530 := by
  obtain ⟨hC, hst, hxT, hxN, hX, hbl, hbA, hL⟩ := hX
  have hc : c ≤ 600 := by omega
  refine J_aload_n hC dL_law_530 1 rfl rfl ?_
  refine J_callVi hC dL_law_531 wl_L_168 yi_X10_day (lo_i (c_X10_day _ G (u 4 0) (oR u) (u 0) (zS z) (zc z) (zp z) h.ci) (pf_o G u z)) rfl rfl 1 10 (lw_o G ol od u m z M f g) rfl ⟨Nat.le_of_ble_eq_true rfl, Nat.le_of_ble_eq_true rfl⟩ (Nat.le_of_ble_eq_true rfl) (show k + 0 ≤ 601024 by omega) (show n + 0 ≤ 7293034 by omega) (fun r1 u1 h1 => ?_)
  refine J_wq (show _ = LW G ol od u m z M f g from rfl) ?_
  refine J_aload_n hC dL_law_534 2 rfl rfl ?_
  obtain ⟨fs2, hm2⟩ := lw_m G ol od u m z M f g
  refine J_callVi hC dL_law_535 wl_L_171 yi_X11_day (lm_i (F := fun _ => (us M 8 2 0)) (c_X11_day _ G m M )) rfl rfl 275 11 hm2 rfl ⟨Nat.le_of_ble_eq_true rfl, Nat.le_of_ble_eq_true rfl⟩ (Nat.le_of_ble_eq_true rfl) (show k + 0 + 0 ≤ 601024 by omega) (show n + 0 + 0 ≤ 7293034 by omega) (fun r2 u2 h2 => ?_)
  refine J_wq (show _ = LW G ol od u m z (us M 8 2 0) f g from rfl) ?_
  have q1 : r1 = r2 := eq_day h hc h1 h2
  refine J_ic_eq (tgt := 2975) hC dL_law_538 (by decide) (fun _ => ?_) (fun c9 => absurd q1 c9)
  refine J_wid (k' := k + 4) (n' := n + 24) (show k + 0 + 0 ≤ k + 4 by omega) (show n + 0 + 0 ≤ n + 24 by omega) ?_
  exact kk z (us M 8 2 0) f g (h.thr 0)

set_option maxRecDepth 100000 in
set_option maxHeartbeats 4000000 in
theorem k_seed {x : JX} {G : gT} {w0 : Cond} {b L : Nat} {xs : Nat → Int32} (hX : LX x G w0 b L xs) {ol od : Nat} {u : Nat → Nat → Nat} {m : Nat → Nat} {z : OS} {M : CT} {f : Nat → Int64} {g : Nat → UInt64} {c k n : Nat} (hp : 6 * c + 6 ≤ L) (h : REL c z M) (hk : k ≤ 600000) (hn : n ≤ 7200000) (kk : LK x G b ol od u m c k n) : J x G (LW G ol od u m z M f g) k n (lvL b u m ol od c) [] 543 := by
  obtain ⟨hC, hst, hxT, hxN, hX, hbl, hbA, hL⟩ := hX
  have hc : c ≤ 600 := by omega
  refine J_aload_n hC dL_law_543 1 rfl rfl ?_
  refine J_callVi hC dL_law_544 wl_L_172 yi_X10_seed (lo_i (c_X10_seed _ G (u 4 0) (oR u) (u 0) (zS z) (zc z) (zp z) h.ci) (pf_o G u z)) rfl rfl 1 10 (lw_o G ol od u m z M f g) rfl ⟨Nat.le_of_ble_eq_true rfl, Nat.le_of_ble_eq_true rfl⟩ (Nat.le_of_ble_eq_true rfl) (show k + 0 ≤ 601024 by omega) (show n + 0 ≤ 7293034 by omega) (fun r1 u1 h1 => ?_)
  refine J_wq (show _ = LW G ol od u m z M f g from rfl) ?_
  refine J_aload_n hC dL_law_547 2 rfl rfl ?_
  obtain ⟨fs2, hm2⟩ := lw_m G ol od u m z M f g
  refine J_callVi hC dL_law_548 wl_L_175 yi_X11_seed (lm_i (F := fun _ => (us M 8 2 0)) (c_X11_seed _ G m M )) rfl rfl 275 11 hm2 rfl ⟨Nat.le_of_ble_eq_true rfl, Nat.le_of_ble_eq_true rfl⟩ (Nat.le_of_ble_eq_true rfl) (show k + 0 + 0 ≤ 601024 by omega) (show n + 0 + 0 ≤ 7293034 by omega) (fun r2 u2 h2 => ?_)
  refine J_wq (show _ = LW G ol od u m z (us M 8 2 0) f g from rfl) ?_
  have q1 : r1 = r2 := eq_seed h hc h1 h2
  refine J_ic_eq (tgt := 2975) hC dL_law_551 (by decide) (fun _ => ?_) (fun c9 => absurd q1 c9)
  refine J_wid (k' := k + 4) (n' := n + 24) (show k + 0 + 0 ≤ k + 4 by omega) (show n + 0 + 0 ≤ n + 24 by omega) ?_
  exact kk z (us M 8 2 0) f g (h.thr 0)

set_option maxRecDepth 100000 in
set_option maxHeartbeats 4000000 in
theorem k_coins {x : JX} {G : gT} {w0 : Cond} {b L : Nat} {xs : Nat → Int32} (hX : LX x G w0 b L xs) {ol od : Nat} {u : Nat → Nat → Nat} {m : Nat → Nat} {z : OS} {M : CT} {f : Nat → Int64} {g : Nat → UInt64} {c k n : Nat} (hp : 6 * c + 6 ≤ L) (h : REL c z M) (hk : k ≤ 600000) (hn : n ≤ 7200000) (kk : LK x G b ol od u m c k n) : J x G (LW G ol od u m z M f g) k n (lvL b u m ol od c) [] 556 := by
  obtain ⟨hC, hst, hxT, hxN, hX, hbl, hbA, hL⟩ := hX
  have hc : c ≤ 600 := by omega
  refine J_aload_n hC dL_law_556 1 rfl rfl ?_
  refine J_callVi hC dL_law_557 wl_L_176 yi_X10_coins (lo_i (c_X10_coins _ G (u 4 0) (oR u) (u 0) (zS z) (zc z) (zp z) h.ci) (pf_o G u z)) rfl rfl 1 10 (lw_o G ol od u m z M f g) rfl ⟨Nat.le_of_ble_eq_true rfl, Nat.le_of_ble_eq_true rfl⟩ (Nat.le_of_ble_eq_true rfl) (show k + 0 ≤ 601024 by omega) (show n + 0 ≤ 7293034 by omega) (fun r1 u1 h1 => ?_)
  refine J_wq (show _ = LW G ol od u m z M f g from rfl) ?_
  refine J_aload_n hC dL_law_560 2 rfl rfl ?_
  obtain ⟨fs2, hm2⟩ := lw_m G ol od u m z M f g
  refine J_callVi hC dL_law_561 wl_L_179 yi_X11_coins (lm_i (F := fun _ => (us M 8 2 0)) (c_X11_coins _ G m M )) rfl rfl 275 11 hm2 rfl ⟨Nat.le_of_ble_eq_true rfl, Nat.le_of_ble_eq_true rfl⟩ (Nat.le_of_ble_eq_true rfl) (show k + 0 + 0 ≤ 601024 by omega) (show n + 0 + 0 ≤ 7293034 by omega) (fun r2 u2 h2 => ?_)
  refine J_wq (show _ = LW G ol od u m z (us M 8 2 0) f g from rfl) ?_
  have q1 : r1 = r2 := eq_coins h hc h1 h2
  refine J_ic_eq (tgt := 2975) hC dL_law_564 (by decide) (fun _ => ?_) (fun c9 => absurd q1 c9)
  refine J_wid (k' := k + 4) (n' := n + 24) (show k + 0 + 0 ≤ k + 4 by omega) (show n + 0 + 0 ≤ n + 24 by omega) ?_
  exact kk z (us M 8 2 0) f g (h.thr 0)

set_option maxRecDepth 100000 in
set_option maxHeartbeats 4000000 in
theorem k_villageCount {x : JX} {G : gT} {w0 : Cond} {b L : Nat} {xs : Nat → Int32} (hX : LX x G w0 b L xs) {ol od : Nat} {u : Nat → Nat → Nat} {m : Nat → Nat} {z : OS} {M : CT} {f : Nat → Int64} {g : Nat → UInt64} {c k n : Nat} (hp : 6 * c + 6 ≤ L) (h : REL c z M) (hk : k ≤ 600000) (hn : n ≤ 7200000) (kk : LK x G b ol od u m c k n) : J x G (LW G ol od u m z M f g) k n (lvL b u m ol od c) [] 569 := by
  obtain ⟨hC, hst, hxT, hxN, hX, hbl, hbA, hL⟩ := hX
  have hc : c ≤ 600 := by omega
  refine J_aload_n hC dL_law_569 1 rfl rfl ?_
  refine J_callVi hC dL_law_570 wl_L_180 yi_X10_villageCount (lo_i (c_X10_villageCount _ G (u 4 0) (oR u) (u 0) (zS z) (zc z) (zp z) h.ci) (pf_o G u z)) rfl rfl 1 10 (lw_o G ol od u m z M f g) rfl ⟨Nat.le_of_ble_eq_true rfl, Nat.le_of_ble_eq_true rfl⟩ (Nat.le_of_ble_eq_true rfl) (show k + 0 ≤ 601024 by omega) (show n + 0 ≤ 7293034 by omega) (fun r1 u1 h1 => ?_)
  refine J_wq (show _ = LW G ol od u m z M f g from rfl) ?_
  refine J_aload_n hC dL_law_573 2 rfl rfl ?_
  obtain ⟨fs2, hm2⟩ := lw_m G ol od u m z M f g
  refine J_callVi hC dL_law_574 wl_L_183 yi_X11_villageCount (lm_i (F := fun _ => (us M 8 2 0)) (c_X11_villageCount _ G m M )) rfl rfl 275 11 hm2 rfl ⟨Nat.le_of_ble_eq_true rfl, Nat.le_of_ble_eq_true rfl⟩ (Nat.le_of_ble_eq_true rfl) (show k + 0 + 0 ≤ 601024 by omega) (show n + 0 + 0 ≤ 7293034 by omega) (fun r2 u2 h2 => ?_)
  refine J_wq (show _ = LW G ol od u m z (us M 8 2 0) f g from rfl) ?_
  have q1 : r1 = r2 := eq_villageCount h hc h1 h2
  refine J_ic_eq (tgt := 2975) hC dL_law_577 (by decide) (fun _ => ?_) (fun c9 => absurd q1 c9)
  refine J_wid (k' := k + 4) (n' := n + 24) (show k + 0 + 0 ≤ k + 4 by omega) (show n + 0 + 0 ≤ n + 24 by omega) ?_
  exact kk z (us M 8 2 0) f g (h.thr 0)

set_option maxRecDepth 100000 in
set_option maxHeartbeats 4000000 in
theorem k_fairCount {x : JX} {G : gT} {w0 : Cond} {b L : Nat} {xs : Nat → Int32} (hX : LX x G w0 b L xs) {ol od : Nat} {u : Nat → Nat → Nat} {m : Nat → Nat} {z : OS} {M : CT} {f : Nat → Int64} {g : Nat → UInt64} {c k n : Nat} (hp : 6 * c + 6 ≤ L) (h : REL c z M) (hk : k ≤ 600000) (hn : n ≤ 7200000) (kk : LK x G b ol od u m c k n) : J x G (LW G ol od u m z M f g) k n (lvL b u m ol od c) [] 582 := by
  obtain ⟨hC, hst, hxT, hxN, hX, hbl, hbA, hL⟩ := hX
  have hc : c ≤ 600 := by omega
  refine J_aload_n hC dL_law_582 1 rfl rfl ?_
  refine J_callVi hC dL_law_583 wl_L_184 yi_X10_fairCount (lo_i (c_X10_fairCount _ G (u 4 0) (oR u) (u 0) (zS z) (zc z) (zp z) h.ci) (pf_o G u z)) rfl rfl 1 10 (lw_o G ol od u m z M f g) rfl ⟨Nat.le_of_ble_eq_true rfl, Nat.le_of_ble_eq_true rfl⟩ (Nat.le_of_ble_eq_true rfl) (show k + 0 ≤ 601024 by omega) (show n + 0 ≤ 7293034 by omega) (fun r1 u1 h1 => ?_)
  refine J_wq (show _ = LW G ol od u m z M f g from rfl) ?_
  refine J_aload_n hC dL_law_586 2 rfl rfl ?_
  obtain ⟨fs2, hm2⟩ := lw_m G ol od u m z M f g
  refine J_callVi hC dL_law_587 wl_L_187 yi_X11_fairCount (lm_i (F := fun _ => (us M 8 2 0)) (c_X11_fairCount _ G m M )) rfl rfl 275 11 hm2 rfl ⟨Nat.le_of_ble_eq_true rfl, Nat.le_of_ble_eq_true rfl⟩ (Nat.le_of_ble_eq_true rfl) (show k + 0 + 0 ≤ 601024 by omega) (show n + 0 + 0 ≤ 7293034 by omega) (fun r2 u2 h2 => ?_)
  refine J_wq (show _ = LW G ol od u m z (us M 8 2 0) f g from rfl) ?_
  have q1 : r1 = r2 := eq_fairCount h hc h1 h2
  refine J_ic_eq (tgt := 2975) hC dL_law_590 (by decide) (fun _ => ?_) (fun c9 => absurd q1 c9)
  refine J_wid (k' := k + 4) (n' := n + 24) (show k + 0 + 0 ≤ k + 4 by omega) (show n + 0 + 0 ≤ n + 24 by omega) ?_
  exact kk z (us M 8 2 0) f g (h.thr 0)

set_option maxRecDepth 100000 in
set_option maxHeartbeats 4000000 in
theorem k_findName {x : JX} {G : gT} {w0 : Cond} {b L : Nat} {xs : Nat → Int32} (hX : LX x G w0 b L xs) {ol od : Nat} {u : Nat → Nat → Nat} {m : Nat → Nat} {z : OS} {M : CT} {f : Nat → Int64} {g : Nat → UInt64} {c k n : Nat} (hp : 6 * c + 6 ≤ L) (h : REL c z M) (hk : k ≤ 600000) (hn : n ≤ 7200000) (kk : LK x G b ol od u m c k n) : J x G (LW G ol od u m z M f g) k n (lvL b u m ol od c) [] 595 := by
  obtain ⟨hC, hst, hxT, hxN, hX, hbl, hbA, hL⟩ := hX
  have hc : c ≤ 600 := by omega
  refine J_aload_n hC dL_law_595 1 rfl rfl ?_
  refine J_callVi hC dL_law_596 wl_L_188 yi_X10_findName (lo_i (c_X10_findName _ G (u 4 0) (oR u) (u 0) (zS z) (zc z) (zp z) (u 2) (zi z) rfl h.qi (zfi z) (fun _ _ => rfl) h.ci) (pf_oi G u z)) rfl rfl 1 10 (lw_o G ol od u m z M f g) rfl ⟨Nat.le_of_ble_eq_true rfl, Nat.le_of_ble_eq_true rfl⟩ (Nat.le_of_ble_eq_true rfl) (show k + 0 ≤ 601024 by omega) (show n + 0 ≤ 7293034 by omega) (fun r1 u1 h1 => ?_)
  refine J_wq (show _ = LW G ol od u m z M f g from rfl) ?_
  refine J_aload_n hC dL_law_599 2 rfl rfl ?_
  obtain ⟨fs2, hm2⟩ := lw_m G ol od u m z M f g
  refine J_callVi hC dL_law_600 wl_L_191 yi_X11_findName (lm_i (F := fun _ => (us M 8 2 0)) (c_X11_findName _ G m M (m_vc (M 0)) (m_fc (M 0)) (cl (M 8 3)) h.vc.1 h.vc.2 h.fc.1 h.fc.2 h.il.1 h.il.2)) rfl rfl 275 11 hm2 rfl ⟨Nat.le_of_ble_eq_true rfl, Nat.le_of_ble_eq_true rfl⟩ (Nat.le_of_ble_eq_true rfl) (show k + 0 + 0 ≤ 601024 by omega) (show n + 0 + 0 ≤ 7293034 by omega) (fun r2 u2 h2 => ?_)
  refine J_wq (show _ = LW G ol od u m z (us M 8 2 0) f g from rfl) ?_
  have q1 : r1 = r2 := eq_findName h hc h1 h2
  refine J_ic_eq (tgt := 2975) hC dL_law_603 (by decide) (fun _ => ?_) (fun c9 => absurd q1 c9)
  refine J_wid (k' := k + 4) (n' := n + 24) (show k + 0 + 0 ≤ k + 4 by omega) (show n + 0 + 0 ≤ n + 24 by omega) ?_
  exact kk z (us M 8 2 0) f g (h.thr 0)

set_option maxRecDepth 100000 in
set_option maxHeartbeats 4000000 in
theorem k_peopleOf {x : JX} {G : gT} {w0 : Cond} {b L : Nat} {xs : Nat → Int32} (hX : LX x G w0 b L xs) {ol od : Nat} {u : Nat → Nat → Nat} {m : Nat → Nat} {z : OS} {M : CT} {f : Nat → Int64} {g : Nat → UInt64} {c k n : Nat} (hp : 6 * c + 6 ≤ L) (h : REL c z M) (hk : k ≤ 600000) (hn : n ≤ 7200000) (kk : LK x G b ol od u m c k n) : J x G (LW G ol od u m z M f g) k n (lvL b u m ol od c) [] 608 := by
  obtain ⟨hC, hst, hxT, hxN, hX, hbl, hbA, hL⟩ := hX
  have hc : c ≤ 600 := by omega
  refine J_aload_n hC dL_law_608 1 rfl rfl ?_
  refine J_aload_n hC dL_law_609 0 rfl rfl ?_
  refine J_iload hC dL_law_610 5 rfl ?_
  refine J_iconst (v := nI 1) hC dL_law_612 rfl ?_
  refine J_iadd (v := nI (6 * c + 1)) hC dL_law_613 (nI_add _ _) ?_
  refine J_sald (v := xs (6 * c + 1)) hC hX hbl hbA dL_law_614 (by omega) (by omega) rfl ?_
  refine J_aload_n hC dL_law_615 3 rfl rfl ?_
  refine J_callW hC hxT hxN dL_law_616 wl_L_192 yw_peopleOf (lw_i (u := u) (m := m) (z := z) (z1 := fun (w : Nat) => z) (z2 := fun (_ : Unit) => z) (w_peopleOf (jl x) G (ofW G u z) (u 4 0) ol _ (of_0 G u z) (xs (6 * c + 1)) f (b_peopleOf (jl x) G u z (xs (6 * c + 1)) h.ci hst) (fun _ _ => rfl))) rfl rfl ⟨Nat.le_of_ble_eq_true rfl, Nat.le_of_ble_eq_true rfl⟩ (Nat.le_of_ble_eq_true rfl) (show k + 1 ≤ 601024 by omega) (show n + 6 ≤ 7293034 by omega) (fun r v hv => ?_)
  obtain ⟨z9, hz9⟩ : ∃ q, q = zW (fun (w : Nat) => z) (fun (_ : Unit) => z) v := ⟨_, rfl⟩
  obtain ⟨f9, hf9⟩ : ∃ q, q = fW f v := ⟨_, rfl⟩
  refine J_wq (show _ = LW G ol od u m z9 M f9 g from by rw [hz9, hf9]) ?_
  refine J_istore hC [(6, .int r), (0, .ref b), (1, .ref (u 4 0)), (2, .ref (m 0)), (3, .ref ol), (4, .ref od), (5, .int (nI (6 * c)))] dL_law_619 (by decide) rfl ?_
  refine J_aload_n hC dL_law_621 3 rfl rfl ?_
  refine J_aload_n hC dL_law_622 1 rfl rfl ?_
  refine J_iload hC dL_law_623 6 rfl ?_
  refine J_iconst (v := nI 1) hC dL_law_625 rfl ?_
  refine J_iadd (v := nI (6 * c + 1)) hC dL_law_626 (nI_add _ _) ?_
  refine J_sald (v := xs (6 * c + 1)) hC hX hbl hbA dL_law_627 (by omega) (by omega) rfl ?_
  obtain ⟨fs2, hm2⟩ := lw_m G ol od u m z9 M f9 g
  refine J_callVi hC dL_law_628 wl_L_194 yi_X11_peopleOf (lm_i (c_X11_peopleOf _ G m M (m_vc (M 0)) (xs (6 * c + 1)) h.vc.1 h.vc.2)) rfl rfl 275 11 hm2 rfl ⟨Nat.le_of_ble_eq_true rfl, Nat.le_of_ble_eq_true rfl⟩ (Nat.le_of_ble_eq_true rfl) (show k + 1 + 0 ≤ 601024 by omega) (show n + 6 + 0 ≤ 7293034 by omega) (fun r2 M2 h2 => ?_)
  obtain ⟨q1, q2, q3⟩ := eq_peopleOf h hc (f := f) (xs (6 * c + 1)) hv h2
  rw [← hz9] at q3
  rw [← hf9] at q2
  refine J_istore hC [(7, .int r2), (6, .int r), (0, .ref b), (1, .ref (u 4 0)), (2, .ref (m 0)), (3, .ref ol), (4, .ref od), (5, .int (nI (6 * c)))] dL_law_631 (by decide) rfl ?_
  refine J_aload_n hC dL_law_633 4 rfl rfl ?_
  obtain ⟨fs3, hm3⟩ := lw_m G ol od u m z9 M2 f9 g
  refine J_callVi hC dL_law_634 wl_L_149 yi_X11_thrown (lm_i (c_X11_thrown _ G m M2)) rfl rfl 275 11 hm3 rfl ⟨Nat.le_of_ble_eq_true rfl, Nat.le_of_ble_eq_true rfl⟩ (Nat.le_of_ble_eq_true rfl) (show k + 1 + 0 + 0 ≤ 601024 by omega) (show n + 6 + 0 + 0 ≤ 7293034 by omega) (fun r3 u3 h3 => ?_)
  refine J_wq (show _ = LW G ol od u m z9 M2 f9 g from rfl) ?_
  subst h3
  refine J_iload hC dL_law_637 1 rfl ?_
  refine J_ic_eq (tgt := 644) hC dL_law_639 (by decide) (fun _ => ?_) (fun c9 => absurd q1 c9)
  refine J_iload hC dL_law_644 1 rfl ?_
  refine J_if_ne (tgt := 661) hC dL_law_646 (by decide) (fun c9 => ?_) (fun c9 => ?_)
  · refine J_goto (tgt := 2975) hC dL_law_661 (by decide) ?_
    refine J_lv (lv' := lvL b u m ol od c) [2, 3, 4, 5, 6, 7] rfl ?_
    refine J_wid (k' := k + 4) (n' := n + 24) (show k + 1 + 0 + 0 ≤ k + 4 by omega) (show n + 6 + 0 + 0 ≤ n + 24 by omega) ?_
    exact kk z9 M2 f9 g q3
  · refine J_aload_n hC dL_law_649 5 rfl rfl ?_
    refine J_iconst (v := nI 0) hC dL_law_650 rfl ?_
    refine J_lald (i := 0) (v := f9 0) hC dL_law_651 0 rfl (by decide) (by decide) rfl ?_
    refine J_iload hC dL_law_652 0 rfl ?_
    refine J_i2l (v := r2.toInt64) hC dL_law_654 rfl ?_
    refine J_lcmp hC dL_law_655 ?_
    refine J_topi (show lg_cmp (f9 0) r2.toInt64 = 0 from by rw [q2 c9]; exact lg_cmp_self _) ?_
    refine J_if_eq (tgt := 661) hC dL_law_656 (by decide) (fun _ => ?_) (fun c8 => absurd rfl c8)
    refine J_goto (tgt := 2975) hC dL_law_661 (by decide) ?_
    refine J_lv (lv' := lvL b u m ol od c) [2, 3, 4, 5, 6, 7] rfl ?_
    refine J_wid (k' := k + 4) (n' := n + 24) (show k + 1 + 0 + 0 ≤ k + 4 by omega) (show n + 6 + 0 + 0 ≤ n + 24 by omega) ?_
    exact kk z9 M2 f9 g q3

set_option maxRecDepth 100000 in
set_option maxHeartbeats 4000000 in
theorem k_trustOf {x : JX} {G : gT} {w0 : Cond} {b L : Nat} {xs : Nat → Int32} (hX : LX x G w0 b L xs) {ol od : Nat} {u : Nat → Nat → Nat} {m : Nat → Nat} {z : OS} {M : CT} {f : Nat → Int64} {g : Nat → UInt64} {c k n : Nat} (hp : 6 * c + 6 ≤ L) (h : REL c z M) (hk : k ≤ 600000) (hn : n ≤ 7200000) (kk : LK x G b ol od u m c k n) : J x G (LW G ol od u m z M f g) k n (lvL b u m ol od c) [] 664 := by
  obtain ⟨hC, hst, hxT, hxN, hX, hbl, hbA, hL⟩ := hX
  have hc : c ≤ 600 := by omega
  refine J_aload_n hC dL_law_664 1 rfl rfl ?_
  refine J_aload_n hC dL_law_665 0 rfl rfl ?_
  refine J_iload hC dL_law_666 5 rfl ?_
  refine J_iconst (v := nI 1) hC dL_law_668 rfl ?_
  refine J_iadd (v := nI (6 * c + 1)) hC dL_law_669 (nI_add _ _) ?_
  refine J_sald (v := xs (6 * c + 1)) hC hX hbl hbA dL_law_670 (by omega) (by omega) rfl ?_
  refine J_aload_n hC dL_law_671 3 rfl rfl ?_
  refine J_callW hC hxT hxN dL_law_672 wl_L_195 yw_trustOf (lw_i (u := u) (m := m) (z := z) (z1 := fun (w : Nat) => z) (z2 := fun (_ : Unit) => z) (w_trustOf (jl x) G (ofW G u z) (u 4 0) ol _ (of_0 G u z) (xs (6 * c + 1)) f (b_trustOf (jl x) G u z (xs (6 * c + 1)) h.ci hst) (fun _ _ => rfl))) rfl rfl ⟨Nat.le_of_ble_eq_true rfl, Nat.le_of_ble_eq_true rfl⟩ (Nat.le_of_ble_eq_true rfl) (show k + 1 ≤ 601024 by omega) (show n + 6 ≤ 7293034 by omega) (fun r v hv => ?_)
  obtain ⟨z9, hz9⟩ : ∃ q, q = zW (fun (w : Nat) => z) (fun (_ : Unit) => z) v := ⟨_, rfl⟩
  obtain ⟨f9, hf9⟩ : ∃ q, q = fW f v := ⟨_, rfl⟩
  refine J_wq (show _ = LW G ol od u m z9 M f9 g from by rw [hz9, hf9]) ?_
  refine J_istore hC [(6, .int r), (0, .ref b), (1, .ref (u 4 0)), (2, .ref (m 0)), (3, .ref ol), (4, .ref od), (5, .int (nI (6 * c)))] dL_law_675 (by decide) rfl ?_
  refine J_aload_n hC dL_law_677 3 rfl rfl ?_
  refine J_aload_n hC dL_law_678 1 rfl rfl ?_
  refine J_iload hC dL_law_679 6 rfl ?_
  refine J_iconst (v := nI 1) hC dL_law_681 rfl ?_
  refine J_iadd (v := nI (6 * c + 1)) hC dL_law_682 (nI_add _ _) ?_
  refine J_sald (v := xs (6 * c + 1)) hC hX hbl hbA dL_law_683 (by omega) (by omega) rfl ?_
  obtain ⟨fs2, hm2⟩ := lw_m G ol od u m z9 M f9 g
  refine J_callVi hC dL_law_684 wl_L_197 yi_X11_trustOf (lm_i (c_X11_trustOf _ G m M (m_vc (M 0)) (xs (6 * c + 1)) h.vc.1 h.vc.2)) rfl rfl 275 11 hm2 rfl ⟨Nat.le_of_ble_eq_true rfl, Nat.le_of_ble_eq_true rfl⟩ (Nat.le_of_ble_eq_true rfl) (show k + 1 + 0 ≤ 601024 by omega) (show n + 6 + 0 ≤ 7293034 by omega) (fun r2 M2 h2 => ?_)
  obtain ⟨q1, q2, q3⟩ := eq_trustOf h hc (f := f) (xs (6 * c + 1)) hv h2
  rw [← hz9] at q3
  rw [← hf9] at q2
  refine J_istore hC [(7, .int r2), (6, .int r), (0, .ref b), (1, .ref (u 4 0)), (2, .ref (m 0)), (3, .ref ol), (4, .ref od), (5, .int (nI (6 * c)))] dL_law_687 (by decide) rfl ?_
  refine J_aload_n hC dL_law_689 4 rfl rfl ?_
  obtain ⟨fs3, hm3⟩ := lw_m G ol od u m z9 M2 f9 g
  refine J_callVi hC dL_law_690 wl_L_149 yi_X11_thrown (lm_i (c_X11_thrown _ G m M2)) rfl rfl 275 11 hm3 rfl ⟨Nat.le_of_ble_eq_true rfl, Nat.le_of_ble_eq_true rfl⟩ (Nat.le_of_ble_eq_true rfl) (show k + 1 + 0 + 0 ≤ 601024 by omega) (show n + 6 + 0 + 0 ≤ 7293034 by omega) (fun r3 u3 h3 => ?_)
  refine J_wq (show _ = LW G ol od u m z9 M2 f9 g from rfl) ?_
  subst h3
  refine J_iload hC dL_law_693 1 rfl ?_
  refine J_ic_eq (tgt := 700) hC dL_law_695 (by decide) (fun _ => ?_) (fun c9 => absurd q1 c9)
  refine J_iload hC dL_law_700 1 rfl ?_
  refine J_if_ne (tgt := 717) hC dL_law_702 (by decide) (fun c9 => ?_) (fun c9 => ?_)
  · refine J_goto (tgt := 2975) hC dL_law_717 (by decide) ?_
    refine J_lv (lv' := lvL b u m ol od c) [2, 3, 4, 5, 6, 7] rfl ?_
    refine J_wid (k' := k + 4) (n' := n + 24) (show k + 1 + 0 + 0 ≤ k + 4 by omega) (show n + 6 + 0 + 0 ≤ n + 24 by omega) ?_
    exact kk z9 M2 f9 g q3
  · refine J_aload_n hC dL_law_705 5 rfl rfl ?_
    refine J_iconst (v := nI 0) hC dL_law_706 rfl ?_
    refine J_lald (i := 0) (v := f9 0) hC dL_law_707 0 rfl (by decide) (by decide) rfl ?_
    refine J_iload hC dL_law_708 0 rfl ?_
    refine J_i2l (v := r2.toInt64) hC dL_law_710 rfl ?_
    refine J_lcmp hC dL_law_711 ?_
    refine J_topi (show lg_cmp (f9 0) r2.toInt64 = 0 from by rw [q2 c9]; exact lg_cmp_self _) ?_
    refine J_if_eq (tgt := 717) hC dL_law_712 (by decide) (fun _ => ?_) (fun c8 => absurd rfl c8)
    refine J_goto (tgt := 2975) hC dL_law_717 (by decide) ?_
    refine J_lv (lv' := lvL b u m ol od c) [2, 3, 4, 5, 6, 7] rfl ?_
    refine J_wid (k' := k + 4) (n' := n + 24) (show k + 1 + 0 + 0 ≤ k + 4 by omega) (show n + 6 + 0 + 0 ≤ n + 24 by omega) ?_
    exact kk z9 M2 f9 g q3

set_option maxRecDepth 100000 in
set_option maxHeartbeats 4000000 in
theorem k_forecastsFor {x : JX} {G : gT} {w0 : Cond} {b L : Nat} {xs : Nat → Int32} (hX : LX x G w0 b L xs) {ol od : Nat} {u : Nat → Nat → Nat} {m : Nat → Nat} {z : OS} {M : CT} {f : Nat → Int64} {g : Nat → UInt64} {c k n : Nat} (hp : 6 * c + 6 ≤ L) (h : REL c z M) (hk : k ≤ 600000) (hn : n ≤ 7200000) (kk : LK x G b ol od u m c k n) : J x G (LW G ol od u m z M f g) k n (lvL b u m ol od c) [] 720 := by
  obtain ⟨hC, hst, hxT, hxN, hX, hbl, hbA, hL⟩ := hX
  have hc : c ≤ 600 := by omega
  refine J_aload_n hC dL_law_720 1 rfl rfl ?_
  refine J_aload_n hC dL_law_721 0 rfl rfl ?_
  refine J_iload hC dL_law_722 5 rfl ?_
  refine J_iconst (v := nI 1) hC dL_law_724 rfl ?_
  refine J_iadd (v := nI (6 * c + 1)) hC dL_law_725 (nI_add _ _) ?_
  refine J_sald (v := xs (6 * c + 1)) hC hX hbl hbA dL_law_726 (by omega) (by omega) rfl ?_
  refine J_aload_n hC dL_law_727 3 rfl rfl ?_
  refine J_callW hC hxT hxN dL_law_728 wl_L_198 yw_forecastsFor (lw_i (u := u) (m := m) (z := z) (z1 := fun (w : Unit) => z) (z2 := fun (_ : Unit) => z) (w_forecastsFor (jl x) G (ofW G u z) (u 4 0) ol _ (of_0 G u z) (xs (6 * c + 1)) f (b_forecastsFor (jl x) G u z (xs (6 * c + 1)) h.ci hst) (fun _ _ => rfl))) rfl rfl ⟨Nat.le_of_ble_eq_true rfl, Nat.le_of_ble_eq_true rfl⟩ (Nat.le_of_ble_eq_true rfl) (show k + 1 ≤ 601024 by omega) (show n + 6 ≤ 7293034 by omega) (fun r v hv => ?_)
  obtain ⟨z9, hz9⟩ : ∃ q, q = zW (fun (w : Unit) => z) (fun (_ : Unit) => z) v := ⟨_, rfl⟩
  obtain ⟨f9, hf9⟩ : ∃ q, q = fW f v := ⟨_, rfl⟩
  refine J_wq (show _ = LW G ol od u m z9 M f9 g from by rw [hz9, hf9]) ?_
  refine J_istore hC [(6, .int r), (0, .ref b), (1, .ref (u 4 0)), (2, .ref (m 0)), (3, .ref ol), (4, .ref od), (5, .int (nI (6 * c)))] dL_law_731 (by decide) rfl ?_
  refine J_aload_n hC dL_law_733 3 rfl rfl ?_
  refine J_aload_n hC dL_law_734 1 rfl rfl ?_
  refine J_iload hC dL_law_735 6 rfl ?_
  refine J_iconst (v := nI 1) hC dL_law_737 rfl ?_
  refine J_iadd (v := nI (6 * c + 1)) hC dL_law_738 (nI_add _ _) ?_
  refine J_sald (v := xs (6 * c + 1)) hC hX hbl hbA dL_law_739 (by omega) (by omega) rfl ?_
  obtain ⟨fs2, hm2⟩ := lw_m G ol od u m z9 M f9 g
  refine J_callVi hC dL_law_740 wl_L_200 yi_X11_forecastsFor (lm_i (c_X11_forecastsFor _ G m M (m_vc (M 0)) (m_bc (M 0)) (xs (6 * c + 1)) h.vc.1 h.vc.2 h.bc.1 h.bc.2)) rfl rfl 275 11 hm2 rfl ⟨Nat.le_of_ble_eq_true rfl, Nat.le_of_ble_eq_true rfl⟩ (Nat.le_of_ble_eq_true rfl) (show k + 1 + 0 ≤ 601024 by omega) (show n + 6 + 0 ≤ 7293034 by omega) (fun r2 M2 h2 => ?_)
  obtain ⟨q1, q2, q3⟩ := eq_forecastsFor h hc (f := f) (xs (6 * c + 1)) hv h2
  rw [← hz9] at q3
  rw [← hf9] at q2
  refine J_istore hC [(7, .int r2), (6, .int r), (0, .ref b), (1, .ref (u 4 0)), (2, .ref (m 0)), (3, .ref ol), (4, .ref od), (5, .int (nI (6 * c)))] dL_law_743 (by decide) rfl ?_
  refine J_aload_n hC dL_law_745 4 rfl rfl ?_
  obtain ⟨fs3, hm3⟩ := lw_m G ol od u m z9 M2 f9 g
  refine J_callVi hC dL_law_746 wl_L_149 yi_X11_thrown (lm_i (c_X11_thrown _ G m M2)) rfl rfl 275 11 hm3 rfl ⟨Nat.le_of_ble_eq_true rfl, Nat.le_of_ble_eq_true rfl⟩ (Nat.le_of_ble_eq_true rfl) (show k + 1 + 0 + 0 ≤ 601024 by omega) (show n + 6 + 0 + 0 ≤ 7293034 by omega) (fun r3 u3 h3 => ?_)
  refine J_wq (show _ = LW G ol od u m z9 M2 f9 g from rfl) ?_
  subst h3
  refine J_iload hC dL_law_749 1 rfl ?_
  refine J_ic_eq (tgt := 756) hC dL_law_751 (by decide) (fun _ => ?_) (fun c9 => absurd q1 c9)
  refine J_iload hC dL_law_756 1 rfl ?_
  refine J_if_ne (tgt := 773) hC dL_law_758 (by decide) (fun c9 => ?_) (fun c9 => ?_)
  · refine J_goto (tgt := 2975) hC dL_law_773 (by decide) ?_
    refine J_lv (lv' := lvL b u m ol od c) [2, 3, 4, 5, 6, 7] rfl ?_
    refine J_wid (k' := k + 4) (n' := n + 24) (show k + 1 + 0 + 0 ≤ k + 4 by omega) (show n + 6 + 0 + 0 ≤ n + 24 by omega) ?_
    exact kk z9 M2 f9 g q3
  · refine J_aload_n hC dL_law_761 5 rfl rfl ?_
    refine J_iconst (v := nI 0) hC dL_law_762 rfl ?_
    refine J_lald (i := 0) (v := f9 0) hC dL_law_763 0 rfl (by decide) (by decide) rfl ?_
    refine J_iload hC dL_law_764 0 rfl ?_
    refine J_i2l (v := r2.toInt64) hC dL_law_766 rfl ?_
    refine J_lcmp hC dL_law_767 ?_
    refine J_topi (show lg_cmp (f9 0) r2.toInt64 = 0 from by rw [q2 c9]; exact lg_cmp_self _) ?_
    refine J_if_eq (tgt := 773) hC dL_law_768 (by decide) (fun _ => ?_) (fun c8 => absurd rfl c8)
    refine J_goto (tgt := 2975) hC dL_law_773 (by decide) ?_
    refine J_lv (lv' := lvL b u m ol od c) [2, 3, 4, 5, 6, 7] rfl ?_
    refine J_wid (k' := k + 4) (n' := n + 24) (show k + 1 + 0 + 0 ≤ k + 4 by omega) (show n + 6 + 0 + 0 ≤ n + 24 by omega) ?_
    exact kk z9 M2 f9 g q3

set_option maxRecDepth 100000 in
set_option maxHeartbeats 4000000 in
theorem k_fairVillage {x : JX} {G : gT} {w0 : Cond} {b L : Nat} {xs : Nat → Int32} (hX : LX x G w0 b L xs) {ol od : Nat} {u : Nat → Nat → Nat} {m : Nat → Nat} {z : OS} {M : CT} {f : Nat → Int64} {g : Nat → UInt64} {c k n : Nat} (hp : 6 * c + 6 ≤ L) (h : REL c z M) (hk : k ≤ 600000) (hn : n ≤ 7200000) (kk : LK x G b ol od u m c k n) : J x G (LW G ol od u m z M f g) k n (lvL b u m ol od c) [] 776 := by
  obtain ⟨hC, hst, hxT, hxN, hX, hbl, hbA, hL⟩ := hX
  have hc : c ≤ 600 := by omega
  refine J_aload_n hC dL_law_776 1 rfl rfl ?_
  refine J_aload_n hC dL_law_777 0 rfl rfl ?_
  refine J_iload hC dL_law_778 5 rfl ?_
  refine J_iconst (v := nI 1) hC dL_law_780 rfl ?_
  refine J_iadd (v := nI (6 * c + 1)) hC dL_law_781 (nI_add _ _) ?_
  refine J_sald (v := xs (6 * c + 1)) hC hX hbl hbA dL_law_782 (by omega) (by omega) rfl ?_
  refine J_aload_n hC dL_law_783 3 rfl rfl ?_
  refine J_callW hC hxT hxN dL_law_784 wl_L_201 yw_fairVillage (lw_i (u := u) (m := m) (z := z) (z1 := fun (w : Nat) => z) (z2 := fun (_ : Unit) => z) (w_fairVillage (jl x) G (ofW G u z) (u 4 0) ol _ (of_0 G u z) (xs (6 * c + 1)) f (b_fairVillage (jl x) G u z (xs (6 * c + 1)) h.ci hst) (fun _ _ => rfl))) rfl rfl ⟨Nat.le_of_ble_eq_true rfl, Nat.le_of_ble_eq_true rfl⟩ (Nat.le_of_ble_eq_true rfl) (show k + 1 ≤ 601024 by omega) (show n + 6 ≤ 7293034 by omega) (fun r v hv => ?_)
  obtain ⟨z9, hz9⟩ : ∃ q, q = zW (fun (w : Nat) => z) (fun (_ : Unit) => z) v := ⟨_, rfl⟩
  obtain ⟨f9, hf9⟩ : ∃ q, q = fW f v := ⟨_, rfl⟩
  refine J_wq (show _ = LW G ol od u m z9 M f9 g from by rw [hz9, hf9]) ?_
  refine J_istore hC [(6, .int r), (0, .ref b), (1, .ref (u 4 0)), (2, .ref (m 0)), (3, .ref ol), (4, .ref od), (5, .int (nI (6 * c)))] dL_law_787 (by decide) rfl ?_
  refine J_aload_n hC dL_law_789 3 rfl rfl ?_
  refine J_aload_n hC dL_law_790 1 rfl rfl ?_
  refine J_iload hC dL_law_791 6 rfl ?_
  refine J_iconst (v := nI 1) hC dL_law_793 rfl ?_
  refine J_iadd (v := nI (6 * c + 1)) hC dL_law_794 (nI_add _ _) ?_
  refine J_sald (v := xs (6 * c + 1)) hC hX hbl hbA dL_law_795 (by omega) (by omega) rfl ?_
  obtain ⟨fs2, hm2⟩ := lw_m G ol od u m z9 M f9 g
  refine J_callVi hC dL_law_796 wl_L_203 yi_X11_fairVillage (lm_i (c_X11_fairVillage _ G m M (m_fc (M 0)) (xs (6 * c + 1)) h.fc.1 h.fc.2)) rfl rfl 275 11 hm2 rfl ⟨Nat.le_of_ble_eq_true rfl, Nat.le_of_ble_eq_true rfl⟩ (Nat.le_of_ble_eq_true rfl) (show k + 1 + 0 ≤ 601024 by omega) (show n + 6 + 0 ≤ 7293034 by omega) (fun r2 M2 h2 => ?_)
  obtain ⟨q1, q2, q3⟩ := eq_fairVillage h hc (f := f) (xs (6 * c + 1)) hv h2
  rw [← hz9] at q3
  rw [← hf9] at q2
  refine J_istore hC [(7, .int r2), (6, .int r), (0, .ref b), (1, .ref (u 4 0)), (2, .ref (m 0)), (3, .ref ol), (4, .ref od), (5, .int (nI (6 * c)))] dL_law_799 (by decide) rfl ?_
  refine J_aload_n hC dL_law_801 4 rfl rfl ?_
  obtain ⟨fs3, hm3⟩ := lw_m G ol od u m z9 M2 f9 g
  refine J_callVi hC dL_law_802 wl_L_149 yi_X11_thrown (lm_i (c_X11_thrown _ G m M2)) rfl rfl 275 11 hm3 rfl ⟨Nat.le_of_ble_eq_true rfl, Nat.le_of_ble_eq_true rfl⟩ (Nat.le_of_ble_eq_true rfl) (show k + 1 + 0 + 0 ≤ 601024 by omega) (show n + 6 + 0 + 0 ≤ 7293034 by omega) (fun r3 u3 h3 => ?_)
  refine J_wq (show _ = LW G ol od u m z9 M2 f9 g from rfl) ?_
  subst h3
  refine J_iload hC dL_law_805 1 rfl ?_
  refine J_ic_eq (tgt := 812) hC dL_law_807 (by decide) (fun _ => ?_) (fun c9 => absurd q1 c9)
  refine J_iload hC dL_law_812 1 rfl ?_
  refine J_if_ne (tgt := 829) hC dL_law_814 (by decide) (fun c9 => ?_) (fun c9 => ?_)
  · refine J_goto (tgt := 2975) hC dL_law_829 (by decide) ?_
    refine J_lv (lv' := lvL b u m ol od c) [2, 3, 4, 5, 6, 7] rfl ?_
    refine J_wid (k' := k + 4) (n' := n + 24) (show k + 1 + 0 + 0 ≤ k + 4 by omega) (show n + 6 + 0 + 0 ≤ n + 24 by omega) ?_
    exact kk z9 M2 f9 g q3
  · refine J_aload_n hC dL_law_817 5 rfl rfl ?_
    refine J_iconst (v := nI 0) hC dL_law_818 rfl ?_
    refine J_lald (i := 0) (v := f9 0) hC dL_law_819 0 rfl (by decide) (by decide) rfl ?_
    refine J_iload hC dL_law_820 0 rfl ?_
    refine J_i2l (v := r2.toInt64) hC dL_law_822 rfl ?_
    refine J_lcmp hC dL_law_823 ?_
    refine J_topi (show lg_cmp (f9 0) r2.toInt64 = 0 from by rw [q2 c9]; exact lg_cmp_self _) ?_
    refine J_if_eq (tgt := 829) hC dL_law_824 (by decide) (fun _ => ?_) (fun c8 => absurd rfl c8)
    refine J_goto (tgt := 2975) hC dL_law_829 (by decide) ?_
    refine J_lv (lv' := lvL b u m ol od c) [2, 3, 4, 5, 6, 7] rfl ?_
    refine J_wid (k' := k + 4) (n' := n + 24) (show k + 1 + 0 + 0 ≤ k + 4 by omega) (show n + 6 + 0 + 0 ≤ n + 24 by omega) ?_
    exact kk z9 M2 f9 g q3

set_option maxRecDepth 100000 in
set_option maxHeartbeats 4000000 in
theorem k_periodOf {x : JX} {G : gT} {w0 : Cond} {b L : Nat} {xs : Nat → Int32} (hX : LX x G w0 b L xs) {ol od : Nat} {u : Nat → Nat → Nat} {m : Nat → Nat} {z : OS} {M : CT} {f : Nat → Int64} {g : Nat → UInt64} {c k n : Nat} (hp : 6 * c + 6 ≤ L) (h : REL c z M) (hk : k ≤ 600000) (hn : n ≤ 7200000) (kk : LK x G b ol od u m c k n) : J x G (LW G ol od u m z M f g) k n (lvL b u m ol od c) [] 832 := by
  obtain ⟨hC, hst, hxT, hxN, hX, hbl, hbA, hL⟩ := hX
  have hc : c ≤ 600 := by omega
  refine J_aload_n hC dL_law_832 1 rfl rfl ?_
  refine J_aload_n hC dL_law_833 0 rfl rfl ?_
  refine J_iload hC dL_law_834 5 rfl ?_
  refine J_iconst (v := nI 1) hC dL_law_836 rfl ?_
  refine J_iadd (v := nI (6 * c + 1)) hC dL_law_837 (nI_add _ _) ?_
  refine J_sald (v := xs (6 * c + 1)) hC hX hbl hbA dL_law_838 (by omega) (by omega) rfl ?_
  refine J_aload_n hC dL_law_839 3 rfl rfl ?_
  refine J_callW hC hxT hxN dL_law_840 wl_L_204 yw_periodOf (lw_i (u := u) (m := m) (z := z) (z1 := fun (w : Nat) => z) (z2 := fun (_ : Unit) => z) (w_periodOf (jl x) G (ofW G u z) (u 4 0) ol _ (of_0 G u z) (xs (6 * c + 1)) f (b_periodOf (jl x) G u z (xs (6 * c + 1)) h.ci hst) (fun _ _ => rfl))) rfl rfl ⟨Nat.le_of_ble_eq_true rfl, Nat.le_of_ble_eq_true rfl⟩ (Nat.le_of_ble_eq_true rfl) (show k + 1 ≤ 601024 by omega) (show n + 6 ≤ 7293034 by omega) (fun r v hv => ?_)
  obtain ⟨z9, hz9⟩ : ∃ q, q = zW (fun (w : Nat) => z) (fun (_ : Unit) => z) v := ⟨_, rfl⟩
  obtain ⟨f9, hf9⟩ : ∃ q, q = fW f v := ⟨_, rfl⟩
  refine J_wq (show _ = LW G ol od u m z9 M f9 g from by rw [hz9, hf9]) ?_
  refine J_istore hC [(6, .int r), (0, .ref b), (1, .ref (u 4 0)), (2, .ref (m 0)), (3, .ref ol), (4, .ref od), (5, .int (nI (6 * c)))] dL_law_843 (by decide) rfl ?_
  refine J_aload_n hC dL_law_845 3 rfl rfl ?_
  refine J_aload_n hC dL_law_846 1 rfl rfl ?_
  refine J_iload hC dL_law_847 6 rfl ?_
  refine J_iconst (v := nI 1) hC dL_law_849 rfl ?_
  refine J_iadd (v := nI (6 * c + 1)) hC dL_law_850 (nI_add _ _) ?_
  refine J_sald (v := xs (6 * c + 1)) hC hX hbl hbA dL_law_851 (by omega) (by omega) rfl ?_
  obtain ⟨fs2, hm2⟩ := lw_m G ol od u m z9 M f9 g
  refine J_callVi hC dL_law_852 wl_L_206 yi_X11_periodOf (lm_i (c_X11_periodOf _ G m M (m_fc (M 0)) (xs (6 * c + 1)) h.fc.1 h.fc.2)) rfl rfl 275 11 hm2 rfl ⟨Nat.le_of_ble_eq_true rfl, Nat.le_of_ble_eq_true rfl⟩ (Nat.le_of_ble_eq_true rfl) (show k + 1 + 0 ≤ 601024 by omega) (show n + 6 + 0 ≤ 7293034 by omega) (fun r2 M2 h2 => ?_)
  obtain ⟨q1, q2, q3⟩ := eq_periodOf h hc (f := f) (xs (6 * c + 1)) hv h2
  rw [← hz9] at q3
  rw [← hf9] at q2
  refine J_istore hC [(7, .int r2), (6, .int r), (0, .ref b), (1, .ref (u 4 0)), (2, .ref (m 0)), (3, .ref ol), (4, .ref od), (5, .int (nI (6 * c)))] dL_law_855 (by decide) rfl ?_
  refine J_aload_n hC dL_law_857 4 rfl rfl ?_
  obtain ⟨fs3, hm3⟩ := lw_m G ol od u m z9 M2 f9 g
  refine J_callVi hC dL_law_858 wl_L_149 yi_X11_thrown (lm_i (c_X11_thrown _ G m M2)) rfl rfl 275 11 hm3 rfl ⟨Nat.le_of_ble_eq_true rfl, Nat.le_of_ble_eq_true rfl⟩ (Nat.le_of_ble_eq_true rfl) (show k + 1 + 0 + 0 ≤ 601024 by omega) (show n + 6 + 0 + 0 ≤ 7293034 by omega) (fun r3 u3 h3 => ?_)
  refine J_wq (show _ = LW G ol od u m z9 M2 f9 g from rfl) ?_
  subst h3
  refine J_iload hC dL_law_861 1 rfl ?_
  refine J_ic_eq (tgt := 868) hC dL_law_863 (by decide) (fun _ => ?_) (fun c9 => absurd q1 c9)
  refine J_iload hC dL_law_868 1 rfl ?_
  refine J_if_ne (tgt := 885) hC dL_law_870 (by decide) (fun c9 => ?_) (fun c9 => ?_)
  · refine J_goto (tgt := 2975) hC dL_law_885 (by decide) ?_
    refine J_lv (lv' := lvL b u m ol od c) [2, 3, 4, 5, 6, 7] rfl ?_
    refine J_wid (k' := k + 4) (n' := n + 24) (show k + 1 + 0 + 0 ≤ k + 4 by omega) (show n + 6 + 0 + 0 ≤ n + 24 by omega) ?_
    exact kk z9 M2 f9 g q3
  · refine J_aload_n hC dL_law_873 5 rfl rfl ?_
    refine J_iconst (v := nI 0) hC dL_law_874 rfl ?_
    refine J_lald (i := 0) (v := f9 0) hC dL_law_875 0 rfl (by decide) (by decide) rfl ?_
    refine J_iload hC dL_law_876 0 rfl ?_
    refine J_i2l (v := r2.toInt64) hC dL_law_878 rfl ?_
    refine J_lcmp hC dL_law_879 ?_
    refine J_topi (show lg_cmp (f9 0) r2.toInt64 = 0 from by rw [q2 c9]; exact lg_cmp_self _) ?_
    refine J_if_eq (tgt := 885) hC dL_law_880 (by decide) (fun _ => ?_) (fun c8 => absurd rfl c8)
    refine J_goto (tgt := 2975) hC dL_law_885 (by decide) ?_
    refine J_lv (lv' := lvL b u m ol od c) [2, 3, 4, 5, 6, 7] rfl ?_
    refine J_wid (k' := k + 4) (n' := n + 24) (show k + 1 + 0 + 0 ≤ k + 4 by omega) (show n + 6 + 0 + 0 ≤ n + 24 by omega) ?_
    exact kk z9 M2 f9 g q3

set_option maxRecDepth 100000 in
set_option maxHeartbeats 4000000 in
theorem k_stockOf {x : JX} {G : gT} {w0 : Cond} {b L : Nat} {xs : Nat → Int32} (hX : LX x G w0 b L xs) {ol od : Nat} {u : Nat → Nat → Nat} {m : Nat → Nat} {z : OS} {M : CT} {f : Nat → Int64} {g : Nat → UInt64} {c k n : Nat} (hp : 6 * c + 6 ≤ L) (h : REL c z M) (hk : k ≤ 600000) (hn : n ≤ 7200000) (kk : LK x G b ol od u m c k n) : J x G (LW G ol od u m z M f g) k n (lvL b u m ol od c) [] 888 := by
  obtain ⟨hC, hst, hxT, hxN, hX, hbl, hbA, hL⟩ := hX
  have hc : c ≤ 600 := by omega
  refine J_aload_n hC dL_law_888 1 rfl rfl ?_
  refine J_aload_n hC dL_law_889 0 rfl rfl ?_
  refine J_iload hC dL_law_890 5 rfl ?_
  refine J_iconst (v := nI 1) hC dL_law_892 rfl ?_
  refine J_iadd (v := nI (6 * c + 1)) hC dL_law_893 (nI_add _ _) ?_
  refine J_sald (v := xs (6 * c + 1)) hC hX hbl hbA dL_law_894 (by omega) (by omega) rfl ?_
  refine J_aload_n hC dL_law_895 3 rfl rfl ?_
  refine J_callW hC hxT hxN dL_law_896 wl_L_207 yw_stockOf (lw_i (u := u) (m := m) (z := z) (z1 := fun (w : Nat) => z) (z2 := fun (_ : Unit) => z) (w_stockOf (jl x) G (ofW G u z) (u 4 0) ol _ (of_0 G u z) (xs (6 * c + 1)) f (b_stockOf (jl x) G u z (xs (6 * c + 1)) h.ci hst) (fun _ _ => rfl))) rfl rfl ⟨Nat.le_of_ble_eq_true rfl, Nat.le_of_ble_eq_true rfl⟩ (Nat.le_of_ble_eq_true rfl) (show k + 1 ≤ 601024 by omega) (show n + 6 ≤ 7293034 by omega) (fun r v hv => ?_)
  obtain ⟨z9, hz9⟩ : ∃ q, q = zW (fun (w : Nat) => z) (fun (_ : Unit) => z) v := ⟨_, rfl⟩
  obtain ⟨f9, hf9⟩ : ∃ q, q = fW f v := ⟨_, rfl⟩
  refine J_wq (show _ = LW G ol od u m z9 M f9 g from by rw [hz9, hf9]) ?_
  refine J_istore hC [(6, .int r), (0, .ref b), (1, .ref (u 4 0)), (2, .ref (m 0)), (3, .ref ol), (4, .ref od), (5, .int (nI (6 * c)))] dL_law_899 (by decide) rfl ?_
  refine J_aload_n hC dL_law_901 3 rfl rfl ?_
  refine J_aload_n hC dL_law_902 1 rfl rfl ?_
  refine J_iload hC dL_law_903 6 rfl ?_
  refine J_iconst (v := nI 1) hC dL_law_905 rfl ?_
  refine J_iadd (v := nI (6 * c + 1)) hC dL_law_906 (nI_add _ _) ?_
  refine J_sald (v := xs (6 * c + 1)) hC hX hbl hbA dL_law_907 (by omega) (by omega) rfl ?_
  obtain ⟨fs2, hm2⟩ := lw_m G ol od u m z9 M f9 g
  refine J_callVi hC dL_law_908 wl_L_209 yi_X11_stockOf (lm_i (c_X11_stockOf _ G m M (m_fc (M 0)) (xs (6 * c + 1)) h.fc.1 h.fc.2)) rfl rfl 275 11 hm2 rfl ⟨Nat.le_of_ble_eq_true rfl, Nat.le_of_ble_eq_true rfl⟩ (Nat.le_of_ble_eq_true rfl) (show k + 1 + 0 ≤ 601024 by omega) (show n + 6 + 0 ≤ 7293034 by omega) (fun r2 M2 h2 => ?_)
  obtain ⟨q1, q2, q3⟩ := eq_stockOf h hc (f := f) (xs (6 * c + 1)) hv h2
  rw [← hz9] at q3
  rw [← hf9] at q2
  refine J_istore hC [(7, .int r2), (6, .int r), (0, .ref b), (1, .ref (u 4 0)), (2, .ref (m 0)), (3, .ref ol), (4, .ref od), (5, .int (nI (6 * c)))] dL_law_911 (by decide) rfl ?_
  refine J_aload_n hC dL_law_913 4 rfl rfl ?_
  obtain ⟨fs3, hm3⟩ := lw_m G ol od u m z9 M2 f9 g
  refine J_callVi hC dL_law_914 wl_L_149 yi_X11_thrown (lm_i (c_X11_thrown _ G m M2)) rfl rfl 275 11 hm3 rfl ⟨Nat.le_of_ble_eq_true rfl, Nat.le_of_ble_eq_true rfl⟩ (Nat.le_of_ble_eq_true rfl) (show k + 1 + 0 + 0 ≤ 601024 by omega) (show n + 6 + 0 + 0 ≤ 7293034 by omega) (fun r3 u3 h3 => ?_)
  refine J_wq (show _ = LW G ol od u m z9 M2 f9 g from rfl) ?_
  subst h3
  refine J_iload hC dL_law_917 1 rfl ?_
  refine J_ic_eq (tgt := 924) hC dL_law_919 (by decide) (fun _ => ?_) (fun c9 => absurd q1 c9)
  refine J_iload hC dL_law_924 1 rfl ?_
  refine J_if_ne (tgt := 941) hC dL_law_926 (by decide) (fun c9 => ?_) (fun c9 => ?_)
  · refine J_goto (tgt := 2975) hC dL_law_941 (by decide) ?_
    refine J_lv (lv' := lvL b u m ol od c) [2, 3, 4, 5, 6, 7] rfl ?_
    refine J_wid (k' := k + 4) (n' := n + 24) (show k + 1 + 0 + 0 ≤ k + 4 by omega) (show n + 6 + 0 + 0 ≤ n + 24 by omega) ?_
    exact kk z9 M2 f9 g q3
  · refine J_aload_n hC dL_law_929 5 rfl rfl ?_
    refine J_iconst (v := nI 0) hC dL_law_930 rfl ?_
    refine J_lald (i := 0) (v := f9 0) hC dL_law_931 0 rfl (by decide) (by decide) rfl ?_
    refine J_iload hC dL_law_932 0 rfl ?_
    refine J_i2l (v := r2.toInt64) hC dL_law_934 rfl ?_
    refine J_lcmp hC dL_law_935 ?_
    refine J_topi (show lg_cmp (f9 0) r2.toInt64 = 0 from by rw [q2 c9]; exact lg_cmp_self _) ?_
    refine J_if_eq (tgt := 941) hC dL_law_936 (by decide) (fun _ => ?_) (fun c8 => absurd rfl c8)
    refine J_goto (tgt := 2975) hC dL_law_941 (by decide) ?_
    refine J_lv (lv' := lvL b u m ol od c) [2, 3, 4, 5, 6, 7] rfl ?_
    refine J_wid (k' := k + 4) (n' := n + 24) (show k + 1 + 0 + 0 ≤ k + 4 by omega) (show n + 6 + 0 + 0 ≤ n + 24 by omega) ?_
    exact kk z9 M2 f9 g q3

set_option maxRecDepth 100000 in
set_option maxHeartbeats 4000000 in
theorem k_priceOf {x : JX} {G : gT} {w0 : Cond} {b L : Nat} {xs : Nat → Int32} (hX : LX x G w0 b L xs) {ol od : Nat} {u : Nat → Nat → Nat} {m : Nat → Nat} {z : OS} {M : CT} {f : Nat → Int64} {g : Nat → UInt64} {c k n : Nat} (hp : 6 * c + 6 ≤ L) (h : REL c z M) (hk : k ≤ 600000) (hn : n ≤ 7200000) (kk : LK x G b ol od u m c k n) : J x G (LW G ol od u m z M f g) k n (lvL b u m ol od c) [] 944 := by
  obtain ⟨hC, hst, hxT, hxN, hX, hbl, hbA, hL⟩ := hX
  have hc : c ≤ 600 := by omega
  refine J_aload_n hC dL_law_944 1 rfl rfl ?_
  refine J_aload_n hC dL_law_945 0 rfl rfl ?_
  refine J_iload hC dL_law_946 5 rfl ?_
  refine J_iconst (v := nI 1) hC dL_law_948 rfl ?_
  refine J_iadd (v := nI (6 * c + 1)) hC dL_law_949 (nI_add _ _) ?_
  refine J_sald (v := xs (6 * c + 1)) hC hX hbl hbA dL_law_950 (by omega) (by omega) rfl ?_
  refine J_aload_n hC dL_law_951 3 rfl rfl ?_
  refine J_callW hC hxT hxN dL_law_952 wl_L_210 yw_priceOf (lw_i (u := u) (m := m) (z := z) (z1 := fun (w : Nat) => z) (z2 := fun (_ : Unit) => z) (w_priceOf (jl x) G (ofW G u z) (u 4 0) ol _ (of_0 G u z) (xs (6 * c + 1)) f (b_priceOf (jl x) G u z (xs (6 * c + 1)) h.ci hst) (fun _ _ => rfl))) rfl rfl ⟨Nat.le_of_ble_eq_true rfl, Nat.le_of_ble_eq_true rfl⟩ (Nat.le_of_ble_eq_true rfl) (show k + 1 ≤ 601024 by omega) (show n + 6 ≤ 7293034 by omega) (fun r v hv => ?_)
  obtain ⟨z9, hz9⟩ : ∃ q, q = zW (fun (w : Nat) => z) (fun (_ : Unit) => z) v := ⟨_, rfl⟩
  obtain ⟨f9, hf9⟩ : ∃ q, q = fW f v := ⟨_, rfl⟩
  refine J_wq (show _ = LW G ol od u m z9 M f9 g from by rw [hz9, hf9]) ?_
  refine J_istore hC [(6, .int r), (0, .ref b), (1, .ref (u 4 0)), (2, .ref (m 0)), (3, .ref ol), (4, .ref od), (5, .int (nI (6 * c)))] dL_law_955 (by decide) rfl ?_
  refine J_aload_n hC dL_law_957 3 rfl rfl ?_
  refine J_aload_n hC dL_law_958 1 rfl rfl ?_
  refine J_iload hC dL_law_959 6 rfl ?_
  refine J_iconst (v := nI 1) hC dL_law_961 rfl ?_
  refine J_iadd (v := nI (6 * c + 1)) hC dL_law_962 (nI_add _ _) ?_
  refine J_sald (v := xs (6 * c + 1)) hC hX hbl hbA dL_law_963 (by omega) (by omega) rfl ?_
  obtain ⟨fs2, hm2⟩ := lw_m G ol od u m z9 M f9 g
  refine J_callVi hC dL_law_964 wl_L_212 yi_X11_priceOf (lm_i (c_X11_priceOf _ G m M (m_fc (M 0)) (xs (6 * c + 1)) h.fc.1 h.fc.2)) rfl rfl 275 11 hm2 rfl ⟨Nat.le_of_ble_eq_true rfl, Nat.le_of_ble_eq_true rfl⟩ (Nat.le_of_ble_eq_true rfl) (show k + 1 + 0 ≤ 601024 by omega) (show n + 6 + 0 ≤ 7293034 by omega) (fun r2 M2 h2 => ?_)
  obtain ⟨q1, q2, q3⟩ := eq_priceOf h hc (f := f) (xs (6 * c + 1)) hv h2
  rw [← hz9] at q3
  rw [← hf9] at q2
  refine J_istore hC [(7, .int r2), (6, .int r), (0, .ref b), (1, .ref (u 4 0)), (2, .ref (m 0)), (3, .ref ol), (4, .ref od), (5, .int (nI (6 * c)))] dL_law_967 (by decide) rfl ?_
  refine J_aload_n hC dL_law_969 4 rfl rfl ?_
  obtain ⟨fs3, hm3⟩ := lw_m G ol od u m z9 M2 f9 g
  refine J_callVi hC dL_law_970 wl_L_149 yi_X11_thrown (lm_i (c_X11_thrown _ G m M2)) rfl rfl 275 11 hm3 rfl ⟨Nat.le_of_ble_eq_true rfl, Nat.le_of_ble_eq_true rfl⟩ (Nat.le_of_ble_eq_true rfl) (show k + 1 + 0 + 0 ≤ 601024 by omega) (show n + 6 + 0 + 0 ≤ 7293034 by omega) (fun r3 u3 h3 => ?_)
  refine J_wq (show _ = LW G ol od u m z9 M2 f9 g from rfl) ?_
  subst h3
  refine J_iload hC dL_law_973 1 rfl ?_
  refine J_ic_eq (tgt := 980) hC dL_law_975 (by decide) (fun _ => ?_) (fun c9 => absurd q1 c9)
  refine J_iload hC dL_law_980 1 rfl ?_
  refine J_if_ne (tgt := 997) hC dL_law_982 (by decide) (fun c9 => ?_) (fun c9 => ?_)
  · refine J_goto (tgt := 2975) hC dL_law_997 (by decide) ?_
    refine J_lv (lv' := lvL b u m ol od c) [2, 3, 4, 5, 6, 7] rfl ?_
    refine J_wid (k' := k + 4) (n' := n + 24) (show k + 1 + 0 + 0 ≤ k + 4 by omega) (show n + 6 + 0 + 0 ≤ n + 24 by omega) ?_
    exact kk z9 M2 f9 g q3
  · refine J_aload_n hC dL_law_985 5 rfl rfl ?_
    refine J_iconst (v := nI 0) hC dL_law_986 rfl ?_
    refine J_lald (i := 0) (v := f9 0) hC dL_law_987 0 rfl (by decide) (by decide) rfl ?_
    refine J_iload hC dL_law_988 0 rfl ?_
    refine J_i2l (v := r2.toInt64) hC dL_law_990 rfl ?_
    refine J_lcmp hC dL_law_991 ?_
    refine J_topi (show lg_cmp (f9 0) r2.toInt64 = 0 from by rw [q2 c9]; exact lg_cmp_self _) ?_
    refine J_if_eq (tgt := 997) hC dL_law_992 (by decide) (fun _ => ?_) (fun c8 => absurd rfl c8)
    refine J_goto (tgt := 2975) hC dL_law_997 (by decide) ?_
    refine J_lv (lv' := lvL b u m ol od c) [2, 3, 4, 5, 6, 7] rfl ?_
    refine J_wid (k' := k + 4) (n' := n + 24) (show k + 1 + 0 + 0 ≤ k + 4 by omega) (show n + 6 + 0 + 0 ≤ n + 24 by omega) ?_
    exact kk z9 M2 f9 g q3

set_option maxRecDepth 100000 in
set_option maxHeartbeats 4000000 in
theorem k_daysUntilFair {x : JX} {G : gT} {w0 : Cond} {b L : Nat} {xs : Nat → Int32} (hX : LX x G w0 b L xs) {ol od : Nat} {u : Nat → Nat → Nat} {m : Nat → Nat} {z : OS} {M : CT} {f : Nat → Int64} {g : Nat → UInt64} {c k n : Nat} (hp : 6 * c + 6 ≤ L) (h : REL c z M) (hk : k ≤ 600000) (hn : n ≤ 7200000) (kk : LK x G b ol od u m c k n) : J x G (LW G ol od u m z M f g) k n (lvL b u m ol od c) [] 1000 := by
  obtain ⟨hC, hst, hxT, hxN, hX, hbl, hbA, hL⟩ := hX
  have hc : c ≤ 600 := by omega
  refine J_aload_n hC dL_law_1000 1 rfl rfl ?_
  refine J_aload_n hC dL_law_1001 0 rfl rfl ?_
  refine J_iload hC dL_law_1002 5 rfl ?_
  refine J_iconst (v := nI 1) hC dL_law_1004 rfl ?_
  refine J_iadd (v := nI (6 * c + 1)) hC dL_law_1005 (nI_add _ _) ?_
  refine J_sald (v := xs (6 * c + 1)) hC hX hbl hbA dL_law_1006 (by omega) (by omega) rfl ?_
  refine J_aload_n hC dL_law_1007 3 rfl rfl ?_
  refine J_callW hC hxT hxN dL_law_1008 wl_L_213 yw_daysUntilFair (lw_i (u := u) (m := m) (z := z) (z1 := fun (w : Nat) => z) (z2 := fun (_ : Unit) => z) (w_daysUntilFair (jl x) G (ofW G u z) (u 4 0) ol _ (of_0 G u z) (xs (6 * c + 1)) f (b_daysUntilFair (jl x) G u z (xs (6 * c + 1)) h.ci hst) (fun _ _ => rfl))) rfl rfl ⟨Nat.le_of_ble_eq_true rfl, Nat.le_of_ble_eq_true rfl⟩ (Nat.le_of_ble_eq_true rfl) (show k + 1 ≤ 601024 by omega) (show n + 6 ≤ 7293034 by omega) (fun r v hv => ?_)
  obtain ⟨z9, hz9⟩ : ∃ q, q = zW (fun (w : Nat) => z) (fun (_ : Unit) => z) v := ⟨_, rfl⟩
  obtain ⟨f9, hf9⟩ : ∃ q, q = fW f v := ⟨_, rfl⟩
  refine J_wq (show _ = LW G ol od u m z9 M f9 g from by rw [hz9, hf9]) ?_
  refine J_istore hC [(6, .int r), (0, .ref b), (1, .ref (u 4 0)), (2, .ref (m 0)), (3, .ref ol), (4, .ref od), (5, .int (nI (6 * c)))] dL_law_1011 (by decide) rfl ?_
  refine J_aload_n hC dL_law_1013 3 rfl rfl ?_
  refine J_aload_n hC dL_law_1014 1 rfl rfl ?_
  refine J_iload hC dL_law_1015 6 rfl ?_
  refine J_iconst (v := nI 1) hC dL_law_1017 rfl ?_
  refine J_iadd (v := nI (6 * c + 1)) hC dL_law_1018 (nI_add _ _) ?_
  refine J_sald (v := xs (6 * c + 1)) hC hX hbl hbA dL_law_1019 (by omega) (by omega) rfl ?_
  obtain ⟨fs2, hm2⟩ := lw_m G ol od u m z9 M f9 g
  refine J_callVi hC dL_law_1020 wl_L_215 yi_X11_daysUntilFair (lm_i (c_X11_daysUntilFair _ G m M (m_bc (M 0)) (m_vc (M 0)) (m_fc (M 0)) (m_mc (M 0)) (cl (M 0 5)) (xs (6 * c + 1)) h.bc.1 h.bc.2 h.vc.1 h.vc.2 h.fc.1 h.fc.2 h.mc.1 h.mc.2 (h.dd hc).1 (h.dd hc).2 h.gi)) rfl rfl 275 11 hm2 rfl ⟨Nat.le_of_ble_eq_true rfl, Nat.le_of_ble_eq_true rfl⟩ (Nat.le_of_ble_eq_true rfl) (show k + 1 + 0 ≤ 601024 by omega) (show n + 6 + 0 ≤ 7293034 by omega) (fun r2 M2 h2 => ?_)
  obtain ⟨q1, q2, q3⟩ := eq_daysUntilFair h hc (f := f) (xs (6 * c + 1)) hv h2
  rw [← hz9] at q3
  rw [← hf9] at q2
  refine J_istore hC [(7, .int r2), (6, .int r), (0, .ref b), (1, .ref (u 4 0)), (2, .ref (m 0)), (3, .ref ol), (4, .ref od), (5, .int (nI (6 * c)))] dL_law_1023 (by decide) rfl ?_
  refine J_aload_n hC dL_law_1025 4 rfl rfl ?_
  obtain ⟨fs3, hm3⟩ := lw_m G ol od u m z9 M2 f9 g
  refine J_callVi hC dL_law_1026 wl_L_149 yi_X11_thrown (lm_i (c_X11_thrown _ G m M2)) rfl rfl 275 11 hm3 rfl ⟨Nat.le_of_ble_eq_true rfl, Nat.le_of_ble_eq_true rfl⟩ (Nat.le_of_ble_eq_true rfl) (show k + 1 + 0 + 0 ≤ 601024 by omega) (show n + 6 + 0 + 0 ≤ 7293034 by omega) (fun r3 u3 h3 => ?_)
  refine J_wq (show _ = LW G ol od u m z9 M2 f9 g from rfl) ?_
  subst h3
  refine J_iload hC dL_law_1029 1 rfl ?_
  refine J_ic_eq (tgt := 1036) hC dL_law_1031 (by decide) (fun _ => ?_) (fun c9 => absurd q1 c9)
  refine J_iload hC dL_law_1036 1 rfl ?_
  refine J_if_ne (tgt := 1053) hC dL_law_1038 (by decide) (fun c9 => ?_) (fun c9 => ?_)
  · refine J_goto (tgt := 2975) hC dL_law_1053 (by decide) ?_
    refine J_lv (lv' := lvL b u m ol od c) [2, 3, 4, 5, 6, 7] rfl ?_
    refine J_wid (k' := k + 4) (n' := n + 24) (show k + 1 + 0 + 0 ≤ k + 4 by omega) (show n + 6 + 0 + 0 ≤ n + 24 by omega) ?_
    exact kk z9 M2 f9 g q3
  · refine J_aload_n hC dL_law_1041 5 rfl rfl ?_
    refine J_iconst (v := nI 0) hC dL_law_1042 rfl ?_
    refine J_lald (i := 0) (v := f9 0) hC dL_law_1043 0 rfl (by decide) (by decide) rfl ?_
    refine J_iload hC dL_law_1044 0 rfl ?_
    refine J_i2l (v := r2.toInt64) hC dL_law_1046 rfl ?_
    refine J_lcmp hC dL_law_1047 ?_
    refine J_topi (show lg_cmp (f9 0) r2.toInt64 = 0 from by rw [q2 c9]; exact lg_cmp_self _) ?_
    refine J_if_eq (tgt := 1053) hC dL_law_1048 (by decide) (fun _ => ?_) (fun c8 => absurd rfl c8)
    refine J_goto (tgt := 2975) hC dL_law_1053 (by decide) ?_
    refine J_lv (lv' := lvL b u m ol od c) [2, 3, 4, 5, 6, 7] rfl ?_
    refine J_wid (k' := k + 4) (n' := n + 24) (show k + 1 + 0 + 0 ≤ k + 4 by omega) (show n + 6 + 0 + 0 ≤ n + 24 by omega) ?_
    exact kk z9 M2 f9 g q3

set_option maxRecDepth 100000 in
set_option maxHeartbeats 4000000 in
theorem k_oddsOf {x : JX} {G : gT} {w0 : Cond} {b L : Nat} {xs : Nat → Int32} (hX : LX x G w0 b L xs) {ol od : Nat} {u : Nat → Nat → Nat} {m : Nat → Nat} {z : OS} {M : CT} {f : Nat → Int64} {g : Nat → UInt64} {c k n : Nat} (hp : 6 * c + 6 ≤ L) (h : REL c z M) (hk : k ≤ 600000) (hn : n ≤ 7200000) (kk : LK x G b ol od u m c k n) : J x G (LW G ol od u m z M f g) k n (lvL b u m ol od c) [] 1056 := by
  obtain ⟨hC, hst, hxT, hxN, hX, hbl, hbA, hL⟩ := hX
  have hc : c ≤ 600 := by omega
  refine J_aload_n hC dL_law_1056 1 rfl rfl ?_
  refine J_aload_n hC dL_law_1057 0 rfl rfl ?_
  refine J_iload hC dL_law_1058 5 rfl ?_
  refine J_iconst (v := nI 1) hC dL_law_1060 rfl ?_
  refine J_iadd (v := nI (6 * c + 1)) hC dL_law_1061 (nI_add _ _) ?_
  refine J_sald (v := xs (6 * c + 1)) hC hX hbl hbA dL_law_1062 (by omega) (by omega) rfl ?_
  refine J_aload_n hC dL_law_1063 3 rfl rfl ?_
  refine J_callW hC hxT hxN dL_law_1064 wl_L_216 yw_oddsOf (lw_i (u := u) (m := m) (z := z) (z1 := fun (w : Nat) => z) (z2 := fun (_ : Unit) => z) (w_oddsOf (jl x) G (ofW G u z) (u 4 0) ol _ (of_0 G u z) (xs (6 * c + 1)) f (b_oddsOf (jl x) G u z (xs (6 * c + 1)) h.ci hst) (fun _ _ => rfl))) rfl rfl ⟨Nat.le_of_ble_eq_true rfl, Nat.le_of_ble_eq_true rfl⟩ (Nat.le_of_ble_eq_true rfl) (show k + 1 ≤ 601024 by omega) (show n + 6 ≤ 7293034 by omega) (fun r v hv => ?_)
  obtain ⟨z9, hz9⟩ : ∃ q, q = zW (fun (w : Nat) => z) (fun (_ : Unit) => z) v := ⟨_, rfl⟩
  obtain ⟨f9, hf9⟩ : ∃ q, q = fW f v := ⟨_, rfl⟩
  refine J_wq (show _ = LW G ol od u m z9 M f9 g from by rw [hz9, hf9]) ?_
  refine J_istore hC [(6, .int r), (0, .ref b), (1, .ref (u 4 0)), (2, .ref (m 0)), (3, .ref ol), (4, .ref od), (5, .int (nI (6 * c)))] dL_law_1067 (by decide) rfl ?_
  refine J_aload_n hC dL_law_1069 3 rfl rfl ?_
  refine J_aload_n hC dL_law_1070 1 rfl rfl ?_
  refine J_iload hC dL_law_1071 6 rfl ?_
  refine J_iconst (v := nI 1) hC dL_law_1073 rfl ?_
  refine J_iadd (v := nI (6 * c + 1)) hC dL_law_1074 (nI_add _ _) ?_
  refine J_sald (v := xs (6 * c + 1)) hC hX hbl hbA dL_law_1075 (by omega) (by omega) rfl ?_
  obtain ⟨fs2, hm2⟩ := lw_m G ol od u m z9 M f9 g
  refine J_callVi hC dL_law_1076 wl_L_218 yi_X11_oddsOf (lm_i (c_X11_oddsOf _ G m M (xs (6 * c + 1)))) rfl rfl 275 11 hm2 rfl ⟨Nat.le_of_ble_eq_true rfl, Nat.le_of_ble_eq_true rfl⟩ (Nat.le_of_ble_eq_true rfl) (show k + 1 + 0 ≤ 601024 by omega) (show n + 6 + 0 ≤ 7293034 by omega) (fun r2 M2 h2 => ?_)
  obtain ⟨q1, q2, q3⟩ := eq_oddsOf h hc (f := f) (xs (6 * c + 1)) hv h2
  rw [← hz9] at q3
  rw [← hf9] at q2
  refine J_istore hC [(7, .int r2), (6, .int r), (0, .ref b), (1, .ref (u 4 0)), (2, .ref (m 0)), (3, .ref ol), (4, .ref od), (5, .int (nI (6 * c)))] dL_law_1079 (by decide) rfl ?_
  refine J_aload_n hC dL_law_1081 4 rfl rfl ?_
  obtain ⟨fs3, hm3⟩ := lw_m G ol od u m z9 M2 f9 g
  refine J_callVi hC dL_law_1082 wl_L_149 yi_X11_thrown (lm_i (c_X11_thrown _ G m M2)) rfl rfl 275 11 hm3 rfl ⟨Nat.le_of_ble_eq_true rfl, Nat.le_of_ble_eq_true rfl⟩ (Nat.le_of_ble_eq_true rfl) (show k + 1 + 0 + 0 ≤ 601024 by omega) (show n + 6 + 0 + 0 ≤ 7293034 by omega) (fun r3 u3 h3 => ?_)
  refine J_wq (show _ = LW G ol od u m z9 M2 f9 g from rfl) ?_
  subst h3
  refine J_iload hC dL_law_1085 1 rfl ?_
  refine J_ic_eq (tgt := 1092) hC dL_law_1087 (by decide) (fun _ => ?_) (fun c9 => absurd q1 c9)
  refine J_iload hC dL_law_1092 1 rfl ?_
  refine J_if_ne (tgt := 1109) hC dL_law_1094 (by decide) (fun c9 => ?_) (fun c9 => ?_)
  · refine J_goto (tgt := 2975) hC dL_law_1109 (by decide) ?_
    refine J_lv (lv' := lvL b u m ol od c) [2, 3, 4, 5, 6, 7] rfl ?_
    refine J_wid (k' := k + 4) (n' := n + 24) (show k + 1 + 0 + 0 ≤ k + 4 by omega) (show n + 6 + 0 + 0 ≤ n + 24 by omega) ?_
    exact kk z9 M2 f9 g q3
  · refine J_aload_n hC dL_law_1097 5 rfl rfl ?_
    refine J_iconst (v := nI 0) hC dL_law_1098 rfl ?_
    refine J_lald (i := 0) (v := f9 0) hC dL_law_1099 0 rfl (by decide) (by decide) rfl ?_
    refine J_iload hC dL_law_1100 0 rfl ?_
    refine J_i2l (v := r2.toInt64) hC dL_law_1102 rfl ?_
    refine J_lcmp hC dL_law_1103 ?_
    refine J_topi (show lg_cmp (f9 0) r2.toInt64 = 0 from by rw [q2 c9]; exact lg_cmp_self _) ?_
    refine J_if_eq (tgt := 1109) hC dL_law_1104 (by decide) (fun _ => ?_) (fun c8 => absurd rfl c8)
    refine J_goto (tgt := 2975) hC dL_law_1109 (by decide) ?_
    refine J_lv (lv' := lvL b u m ol od c) [2, 3, 4, 5, 6, 7] rfl ?_
    refine J_wid (k' := k + 4) (n' := n + 24) (show k + 1 + 0 + 0 ≤ k + 4 by omega) (show n + 6 + 0 + 0 ≤ n + 24 by omega) ?_
    exact kk z9 M2 f9 g q3

set_option maxRecDepth 100000 in
set_option maxHeartbeats 4000000 in
theorem k_chanceOf {x : JX} {G : gT} {w0 : Cond} {b L : Nat} {xs : Nat → Int32} (hX : LX x G w0 b L xs) {ol od : Nat} {u : Nat → Nat → Nat} {m : Nat → Nat} {z : OS} {M : CT} {f : Nat → Int64} {g : Nat → UInt64} {c k n : Nat} (hp : 6 * c + 6 ≤ L) (h : REL c z M) (hk : k ≤ 600000) (hn : n ≤ 7200000) (kk : LK x G b ol od u m c k n) : J x G (LW G ol od u m z M f g) k n (lvL b u m ol od c) [] 1112 := by
  obtain ⟨hC, hst, hxT, hxN, hX, hbl, hbA, hL⟩ := hX
  have hc : c ≤ 600 := by omega
  refine J_aload_n hC dL_law_1112 1 rfl rfl ?_
  refine J_aload_n hC dL_law_1113 0 rfl rfl ?_
  refine J_iload hC dL_law_1114 5 rfl ?_
  refine J_iconst (v := nI 1) hC dL_law_1116 rfl ?_
  refine J_iadd (v := nI (6 * c + 1)) hC dL_law_1117 (nI_add _ _) ?_
  refine J_sald (v := xs (6 * c + 1)) hC hX hbl hbA dL_law_1118 (by omega) (by omega) rfl ?_
  refine J_aload hC dL_law_1119 4 rfl ?_
  refine J_callW hC hxT hxN dL_law_1121 wl_L_219 yw_chanceOf (lw_d (u := u) (m := m) (z := z) (z1 := fun (w : Nat) => z) (z2 := fun (_ : Unit) => z) (w_chanceOf (jl x) G (ofW G u z) (u 4 0) od _ (of_0 G u z) (xs (6 * c + 1)) g (b_chanceOf (jl x) G u z (xs (6 * c + 1))  hst) (fun _ _ => rfl))) rfl rfl ⟨Nat.le_of_ble_eq_true rfl, Nat.le_of_ble_eq_true rfl⟩ (Nat.le_of_ble_eq_true rfl) (show k + 1 ≤ 601024 by omega) (show n + 6 ≤ 7293034 by omega) (fun r v hv => ?_)
  obtain ⟨z9, hz9⟩ : ∃ q, q = zW (fun (w : Nat) => z) (fun (_ : Unit) => z) v := ⟨_, rfl⟩
  obtain ⟨g9, hg9⟩ : ∃ q, q = gWd g v := ⟨_, rfl⟩
  refine J_wq (show _ = LW G ol od u m z9 M f g9 from by rw [hz9, hg9]) ?_
  refine J_istore hC [(6, .int r), (0, .ref b), (1, .ref (u 4 0)), (2, .ref (m 0)), (3, .ref ol), (4, .ref od), (5, .int (nI (6 * c)))] dL_law_1124 (by decide) rfl ?_
  refine J_aload_n hC dL_law_1126 3 rfl rfl ?_
  refine J_aload_n hC dL_law_1127 1 rfl rfl ?_
  refine J_iload hC dL_law_1128 6 rfl ?_
  refine J_iconst (v := nI 1) hC dL_law_1130 rfl ?_
  refine J_iadd (v := nI (6 * c + 1)) hC dL_law_1131 (nI_add _ _) ?_
  refine J_sald (v := xs (6 * c + 1)) hC hX hbl hbA dL_law_1132 (by omega) (by omega) rfl ?_
  obtain ⟨fs2, hm2⟩ := lw_m G ol od u m z9 M f g9
  refine J_callVd hC dL_law_1133 wl_L_222 yi_X11_chanceOf (lm_d (c_X11_chanceOf _ G m M (xs (6 * c + 1)) (fun _ _ => h.os))) rfl rfl 275 11 hm2 rfl ⟨Nat.le_of_ble_eq_true rfl, Nat.le_of_ble_eq_true rfl⟩ (Nat.le_of_ble_eq_true rfl) (show k + 1 + 0 ≤ 601024 by omega) (show n + 6 + 0 ≤ 7293034 by omega) (fun r2 M2 h2 => ?_)
  obtain ⟨q1, q2, q3⟩ := eq_chanceOf h hc (xs (6 * c + 1)) hv h2
  rw [← hz9] at q3
  refine J_dstore hC [(7, .double r2), (6, .int r), (0, .ref b), (1, .ref (u 4 0)), (2, .ref (m 0)), (3, .ref ol), (4, .ref od), (5, .int (nI (6 * c)))] dL_law_1136 (by decide) rfl ?_
  refine J_aload_n hC dL_law_1138 4 rfl rfl ?_
  obtain ⟨fs3, hm3⟩ := lw_m G ol od u m z9 M2 f g9
  refine J_callVi hC dL_law_1139 wl_L_149 yi_X11_thrown (lm_i (c_X11_thrown _ G m M2)) rfl rfl 275 11 hm3 rfl ⟨Nat.le_of_ble_eq_true rfl, Nat.le_of_ble_eq_true rfl⟩ (Nat.le_of_ble_eq_true rfl) (show k + 1 + 0 + 0 ≤ 601024 by omega) (show n + 6 + 0 + 0 ≤ 7293034 by omega) (fun r3 u3 h3 => ?_)
  refine J_wq (show _ = LW G ol od u m z9 M2 f g9 from rfl) ?_
  subst h3
  refine J_iload hC dL_law_1142 1 rfl ?_
  refine J_ic_eq (tgt := 1149) hC dL_law_1144 (by decide) (fun _ => ?_) (fun c9 => absurd q1 c9)
  refine J_iload hC dL_law_1149 1 rfl ?_
  refine J_if_ne (tgt := 1186) hC dL_law_1151 (by decide) (fun c9 => ?_) (fun c9 => ?_)
  · refine J_goto (tgt := 2975) hC dL_law_1186 (by decide) ?_
    refine J_lv (lv' := lvL b u m ol od c) [2, 3, 4, 5, 6, 7] rfl ?_
    refine J_wid (k' := k + 4) (n' := n + 24) (show k + 1 + 0 + 0 ≤ k + 4 by omega) (show n + 6 + 0 + 0 ≤ n + 24 by omega) ?_
    exact kk z9 M2 f g9 q3
  · obtain ⟨s9, hs9⟩ := q2 c9
    have hg0 : g9 0 = r2 := by rw [hg9, hs9]; rfl
    refine J_aload hC dL_law_1154 6 rfl ?_
    refine J_iconst (v := nI 0) hC dL_law_1156 rfl ?_
    refine J_dald (i := 0) (v := r2) hC dL_law_1157 274 rfl (by decide) (by decide) hg0 ?_
    refine J_dload hC dL_law_1158 0 rfl ?_
    refine J_dcmp hC dL_law_1160 ?_
    refine J_if_eq (tgt := 1186) hC dL_law_1161 (by decide) (fun c8 => ?_) (fun c8 => ?_)
    · refine J_goto (tgt := 2975) hC dL_law_1186 (by decide) ?_
      refine J_lv (lv' := lvL b u m ol od c) [2, 3, 4, 5, 6, 7] rfl ?_
      refine J_wid (k' := k + 4) (n' := n + 24) (show k + 1 + 0 + 0 ≤ k + 4 by omega) (show n + 6 + 0 + 0 ≤ n + 24 by omega) ?_
      exact kk z9 M2 f g9 q3
    · refine J_aload hC dL_law_1164 6 rfl ?_
      refine J_iconst (v := nI 0) hC dL_law_1166 rfl ?_
      refine J_dald (i := 0) (v := r2) hC dL_law_1167 274 rfl (by decide) (by decide) hg0 ?_
      refine J_aload hC dL_law_1168 6 rfl ?_
      refine J_iconst (v := nI 0) hC dL_law_1170 rfl ?_
      refine J_dald (i := 0) (v := r2) hC dL_law_1171 274 rfl (by decide) (by decide) hg0 ?_
      refine J_dcmp hC dL_law_1172 ?_
      refine J_if_eq (tgt := 1184) hC dL_law_1173 (by decide) (fun c7 => absurd c7 c8) (fun _ => ?_)
      refine J_dload hC dL_law_1176 0 rfl ?_
      refine J_dload hC dL_law_1178 0 rfl ?_
      refine J_dcmp hC dL_law_1180 ?_
      refine J_if_ne (tgt := 1186) hC dL_law_1181 (by decide) (fun _ => ?_) (fun c7 => absurd c7 c8)
      refine J_goto (tgt := 2975) hC dL_law_1186 (by decide) ?_
      refine J_lv (lv' := lvL b u m ol od c) [2, 3, 4, 5, 6, 7] rfl ?_
      refine J_wid (k' := k + 4) (n' := n + 24) (show k + 1 + 0 + 0 ≤ k + 4 by omega) (show n + 6 + 0 + 0 ≤ n + 24 by omega) ?_
      exact kk z9 M2 f g9 q3

set_option maxRecDepth 100000 in
set_option maxHeartbeats 4000000 in
theorem k_drawnThisYear {x : JX} {G : gT} {w0 : Cond} {b L : Nat} {xs : Nat → Int32} (hX : LX x G w0 b L xs) {ol od : Nat} {u : Nat → Nat → Nat} {m : Nat → Nat} {z : OS} {M : CT} {f : Nat → Int64} {g : Nat → UInt64} {c k n : Nat} (hp : 6 * c + 6 ≤ L) (h : REL c z M) (hk : k ≤ 600000) (hn : n ≤ 7200000) (kk : LK x G b ol od u m c k n) : J x G (LW G ol od u m z M f g) k n (lvL b u m ol od c) [] 1189 := by
  obtain ⟨hC, hst, hxT, hxN, hX, hbl, hbA, hL⟩ := hX
  have hc : c ≤ 600 := by omega
  refine J_aload_n hC dL_law_1189 1 rfl rfl ?_
  refine J_aload_n hC dL_law_1190 0 rfl rfl ?_
  refine J_iload hC dL_law_1191 5 rfl ?_
  refine J_iconst (v := nI 1) hC dL_law_1193 rfl ?_
  refine J_iadd (v := nI (6 * c + 1)) hC dL_law_1194 (nI_add _ _) ?_
  refine J_sald (v := xs (6 * c + 1)) hC hX hbl hbA dL_law_1195 (by omega) (by omega) rfl ?_
  refine J_aload_n hC dL_law_1196 3 rfl rfl ?_
  refine J_callW hC hxT hxN dL_law_1197 wl_L_223 yw_drawnThisYear (lw_i (u := u) (m := m) (z := z) (z1 := fun (w : Nat) => z) (z2 := fun (_ : Unit) => z) (w_drawnThisYear (jl x) G (ofW G u z) (u 4 0) ol _ (of_0 G u z) (xs (6 * c + 1)) f (b_drawnThisYear (jl x) G u z (xs (6 * c + 1)) h.ci hst) (fun _ _ => rfl))) rfl rfl ⟨Nat.le_of_ble_eq_true rfl, Nat.le_of_ble_eq_true rfl⟩ (Nat.le_of_ble_eq_true rfl) (show k + 1 ≤ 601024 by omega) (show n + 6 ≤ 7293034 by omega) (fun r v hv => ?_)
  obtain ⟨z9, hz9⟩ : ∃ q, q = zW (fun (w : Nat) => z) (fun (_ : Unit) => z) v := ⟨_, rfl⟩
  obtain ⟨f9, hf9⟩ : ∃ q, q = fW f v := ⟨_, rfl⟩
  refine J_wq (show _ = LW G ol od u m z9 M f9 g from by rw [hz9, hf9]) ?_
  refine J_istore hC [(6, .int r), (0, .ref b), (1, .ref (u 4 0)), (2, .ref (m 0)), (3, .ref ol), (4, .ref od), (5, .int (nI (6 * c)))] dL_law_1200 (by decide) rfl ?_
  refine J_aload_n hC dL_law_1202 3 rfl rfl ?_
  refine J_aload_n hC dL_law_1203 1 rfl rfl ?_
  refine J_iload hC dL_law_1204 6 rfl ?_
  refine J_iconst (v := nI 1) hC dL_law_1206 rfl ?_
  refine J_iadd (v := nI (6 * c + 1)) hC dL_law_1207 (nI_add _ _) ?_
  refine J_sald (v := xs (6 * c + 1)) hC hX hbl hbA dL_law_1208 (by omega) (by omega) rfl ?_
  obtain ⟨fs2, hm2⟩ := lw_m G ol od u m z9 M f9 g
  refine J_callVi hC dL_law_1209 wl_L_225 yi_X11_drawnThisYear (lm_i (c_X11_drawnThisYear _ G m M (xs (6 * c + 1)))) rfl rfl 275 11 hm2 rfl ⟨Nat.le_of_ble_eq_true rfl, Nat.le_of_ble_eq_true rfl⟩ (Nat.le_of_ble_eq_true rfl) (show k + 1 + 0 ≤ 601024 by omega) (show n + 6 + 0 ≤ 7293034 by omega) (fun r2 M2 h2 => ?_)
  obtain ⟨q1, q2, q3⟩ := eq_drawnThisYear h hc (f := f) (xs (6 * c + 1)) hv h2
  rw [← hz9] at q3
  rw [← hf9] at q2
  refine J_istore hC [(7, .int r2), (6, .int r), (0, .ref b), (1, .ref (u 4 0)), (2, .ref (m 0)), (3, .ref ol), (4, .ref od), (5, .int (nI (6 * c)))] dL_law_1212 (by decide) rfl ?_
  refine J_aload_n hC dL_law_1214 4 rfl rfl ?_
  obtain ⟨fs3, hm3⟩ := lw_m G ol od u m z9 M2 f9 g
  refine J_callVi hC dL_law_1215 wl_L_149 yi_X11_thrown (lm_i (c_X11_thrown _ G m M2)) rfl rfl 275 11 hm3 rfl ⟨Nat.le_of_ble_eq_true rfl, Nat.le_of_ble_eq_true rfl⟩ (Nat.le_of_ble_eq_true rfl) (show k + 1 + 0 + 0 ≤ 601024 by omega) (show n + 6 + 0 + 0 ≤ 7293034 by omega) (fun r3 u3 h3 => ?_)
  refine J_wq (show _ = LW G ol od u m z9 M2 f9 g from rfl) ?_
  subst h3
  refine J_iload hC dL_law_1218 1 rfl ?_
  refine J_ic_eq (tgt := 1225) hC dL_law_1220 (by decide) (fun _ => ?_) (fun c9 => absurd q1 c9)
  refine J_iload hC dL_law_1225 1 rfl ?_
  refine J_if_ne (tgt := 1242) hC dL_law_1227 (by decide) (fun c9 => ?_) (fun c9 => ?_)
  · refine J_goto (tgt := 2975) hC dL_law_1242 (by decide) ?_
    refine J_lv (lv' := lvL b u m ol od c) [2, 3, 4, 5, 6, 7] rfl ?_
    refine J_wid (k' := k + 4) (n' := n + 24) (show k + 1 + 0 + 0 ≤ k + 4 by omega) (show n + 6 + 0 + 0 ≤ n + 24 by omega) ?_
    exact kk z9 M2 f9 g q3
  · refine J_aload_n hC dL_law_1230 5 rfl rfl ?_
    refine J_iconst (v := nI 0) hC dL_law_1231 rfl ?_
    refine J_lald (i := 0) (v := f9 0) hC dL_law_1232 0 rfl (by decide) (by decide) rfl ?_
    refine J_iload hC dL_law_1233 0 rfl ?_
    refine J_i2l (v := r2.toInt64) hC dL_law_1235 rfl ?_
    refine J_lcmp hC dL_law_1236 ?_
    refine J_topi (show lg_cmp (f9 0) r2.toInt64 = 0 from by rw [q2 c9]; exact lg_cmp_self _) ?_
    refine J_if_eq (tgt := 1242) hC dL_law_1237 (by decide) (fun _ => ?_) (fun c8 => absurd rfl c8)
    refine J_goto (tgt := 2975) hC dL_law_1242 (by decide) ?_
    refine J_lv (lv' := lvL b u m ol od c) [2, 3, 4, 5, 6, 7] rfl ?_
    refine J_wid (k' := k + 4) (n' := n + 24) (show k + 1 + 0 + 0 ≤ k + 4 by omega) (show n + 6 + 0 + 0 ≤ n + 24 by omega) ?_
    exact kk z9 M2 f9 g q3

set_option maxRecDepth 100000 in
set_option maxHeartbeats 4000000 in
theorem k_forecastCount {x : JX} {G : gT} {w0 : Cond} {b L : Nat} {xs : Nat → Int32} (hX : LX x G w0 b L xs) {ol od : Nat} {u : Nat → Nat → Nat} {m : Nat → Nat} {z : OS} {M : CT} {f : Nat → Int64} {g : Nat → UInt64} {c k n : Nat} (hp : 6 * c + 6 ≤ L) (h : REL c z M) (hk : k ≤ 600000) (hn : n ≤ 7200000) (kk : LK x G b ol od u m c k n) : J x G (LW G ol od u m z M f g) k n (lvL b u m ol od c) [] 1245 := by
  obtain ⟨hC, hst, hxT, hxN, hX, hbl, hbA, hL⟩ := hX
  have hc : c ≤ 600 := by omega
  refine J_aload_n hC dL_law_1245 1 rfl rfl ?_
  refine J_callVi hC dL_law_1246 wl_L_226 yi_X10_forecastCount (lo_i (c_X10_forecastCount _ G (u 4 0) (oR u) (u 0) (zS z) (zc z) (zp z) h.ci) (pf_o G u z)) rfl rfl 1 10 (lw_o G ol od u m z M f g) rfl ⟨Nat.le_of_ble_eq_true rfl, Nat.le_of_ble_eq_true rfl⟩ (Nat.le_of_ble_eq_true rfl) (show k + 0 ≤ 601024 by omega) (show n + 0 ≤ 7293034 by omega) (fun r1 u1 h1 => ?_)
  refine J_wq (show _ = LW G ol od u m z M f g from rfl) ?_
  refine J_aload_n hC dL_law_1249 2 rfl rfl ?_
  obtain ⟨fs2, hm2⟩ := lw_m G ol od u m z M f g
  refine J_callVi hC dL_law_1250 wl_L_229 yi_X11_forecastCount (lm_i (F := fun _ => (us M 8 2 0)) (c_X11_forecastCount _ G m M )) rfl rfl 275 11 hm2 rfl ⟨Nat.le_of_ble_eq_true rfl, Nat.le_of_ble_eq_true rfl⟩ (Nat.le_of_ble_eq_true rfl) (show k + 0 + 0 ≤ 601024 by omega) (show n + 0 + 0 ≤ 7293034 by omega) (fun r2 u2 h2 => ?_)
  refine J_wq (show _ = LW G ol od u m z (us M 8 2 0) f g from rfl) ?_
  have q1 : r1 = r2 := eq_forecastCount h hc h1 h2
  refine J_ic_eq (tgt := 2975) hC dL_law_1253 (by decide) (fun _ => ?_) (fun c9 => absurd q1 c9)
  refine J_wid (k' := k + 4) (n' := n + 24) (show k + 0 + 0 ≤ k + 4 by omega) (show n + 0 + 0 ≤ n + 24 by omega) ?_
  exact kk z (us M 8 2 0) f g (h.thr 0)

set_option maxRecDepth 100000 in
set_option maxHeartbeats 4000000 in
theorem k_hasForecast {x : JX} {G : gT} {w0 : Cond} {b L : Nat} {xs : Nat → Int32} (hX : LX x G w0 b L xs) {ol od : Nat} {u : Nat → Nat → Nat} {m : Nat → Nat} {z : OS} {M : CT} {f : Nat → Int64} {g : Nat → UInt64} {c k n : Nat} (hp : 6 * c + 6 ≤ L) (h : REL c z M) (hk : k ≤ 600000) (hn : n ≤ 7200000) (kk : LK x G b ol od u m c k n) : J x G (LW G ol od u m z M f g) k n (lvL b u m ol od c) [] 1258 := by
  obtain ⟨hC, hst, hxT, hxN, hX, hbl, hbA, hL⟩ := hX
  have hc : c ≤ 600 := by omega
  refine J_aload_n hC dL_law_1258 1 rfl rfl ?_
  refine J_aload_n hC dL_law_1259 0 rfl rfl ?_
  refine J_iload hC dL_law_1260 5 rfl ?_
  refine J_iconst (v := nI 1) hC dL_law_1262 rfl ?_
  refine J_iadd (v := nI (6 * c + 1)) hC dL_law_1263 (nI_add _ _) ?_
  refine J_sald (v := xs (6 * c + 1)) hC hX hbl hbA dL_law_1264 (by omega) (by omega) rfl ?_
  refine J_aload_n hC dL_law_1265 0 rfl rfl ?_
  refine J_iload hC dL_law_1266 5 rfl ?_
  refine J_iconst (v := nI 2) hC dL_law_1268 rfl ?_
  refine J_iadd (v := nI (6 * c + 2)) hC dL_law_1269 (nI_add _ _) ?_
  refine J_sald (v := xs (6 * c + 2)) hC hX hbl hbA dL_law_1270 (by omega) (by omega) rfl ?_
  refine J_aload_n hC dL_law_1271 3 rfl rfl ?_
  refine J_callW hC hxT hxN dL_law_1272 wl_L_230 yw_hasForecast (lw_b (u := u) (m := m) (z := z) (z1 := fun (w : Unit) => z) (z2 := fun (_ : Unit) => z) (w_hasForecast (jl x) G (ofW G u z) (u 4 0) ol _ (of_0 G u z) (xs (6 * c + 1)) (xs (6 * c + 2)) f (b_hasForecast (jl x) G u z (xs (6 * c + 1)) (xs (6 * c + 2)) h.ci hst) (fun _ _ => rfl))) rfl rfl ⟨Nat.le_of_ble_eq_true rfl, Nat.le_of_ble_eq_true rfl⟩ (Nat.le_of_ble_eq_true rfl) (show k + 1 ≤ 601024 by omega) (show n + 6 ≤ 7293034 by omega) (fun r v hv => ?_)
  obtain ⟨z9, hz9⟩ : ∃ q, q = zW (fun (w : Unit) => z) (fun (_ : Unit) => z) v := ⟨_, rfl⟩
  obtain ⟨f9, hf9⟩ : ∃ q, q = fWb f v := ⟨_, rfl⟩
  refine J_wq (show _ = LW G ol od u m z9 M f9 g from by rw [hz9, hf9]) ?_
  refine J_istore hC [(6, .int r), (0, .ref b), (1, .ref (u 4 0)), (2, .ref (m 0)), (3, .ref ol), (4, .ref od), (5, .int (nI (6 * c)))] dL_law_1275 (by decide) rfl ?_
  refine J_aload_n hC dL_law_1277 3 rfl rfl ?_
  refine J_aload_n hC dL_law_1278 1 rfl rfl ?_
  refine J_iload hC dL_law_1279 6 rfl ?_
  refine J_iconst (v := nI 1) hC dL_law_1281 rfl ?_
  refine J_iadd (v := nI (6 * c + 1)) hC dL_law_1282 (nI_add _ _) ?_
  refine J_sald (v := xs (6 * c + 1)) hC hX hbl hbA dL_law_1283 (by omega) (by omega) rfl ?_
  refine J_aload_n hC dL_law_1284 1 rfl rfl ?_
  refine J_iload hC dL_law_1285 6 rfl ?_
  refine J_iconst (v := nI 2) hC dL_law_1287 rfl ?_
  refine J_iadd (v := nI (6 * c + 2)) hC dL_law_1288 (nI_add _ _) ?_
  refine J_sald (v := xs (6 * c + 2)) hC hX hbl hbA dL_law_1289 (by omega) (by omega) rfl ?_
  obtain ⟨fs2, hm2⟩ := lw_m G ol od u m z9 M f9 g
  refine J_callVi hC dL_law_1290 wl_L_233 yi_X11_hasForecast (lm_i (c_X11_hasForecast _ G m M (m_vc (M 0)) (m_bc (M 0)) (xs (6 * c + 1)) (xs (6 * c + 2)) h.vc.1 h.vc.2 h.bc.1 h.bc.2)) rfl rfl 275 11 hm2 rfl ⟨Nat.le_of_ble_eq_true rfl, Nat.le_of_ble_eq_true rfl⟩ (Nat.le_of_ble_eq_true rfl) (show k + 1 + 0 ≤ 601024 by omega) (show n + 6 + 0 ≤ 7293034 by omega) (fun r2 M2 h2 => ?_)
  obtain ⟨q1, q2, q3⟩ := eq_hasForecast h hc (f := f) (xs (6 * c + 1)) (xs (6 * c + 2)) hv h2
  rw [← hz9] at q3
  rw [← hf9] at q2
  refine J_istore hC [(7, .int r2), (6, .int r), (0, .ref b), (1, .ref (u 4 0)), (2, .ref (m 0)), (3, .ref ol), (4, .ref od), (5, .int (nI (6 * c)))] dL_law_1293 (by decide) rfl ?_
  refine J_aload_n hC dL_law_1295 4 rfl rfl ?_
  obtain ⟨fs3, hm3⟩ := lw_m G ol od u m z9 M2 f9 g
  refine J_callVi hC dL_law_1296 wl_L_149 yi_X11_thrown (lm_i (c_X11_thrown _ G m M2)) rfl rfl 275 11 hm3 rfl ⟨Nat.le_of_ble_eq_true rfl, Nat.le_of_ble_eq_true rfl⟩ (Nat.le_of_ble_eq_true rfl) (show k + 1 + 0 + 0 ≤ 601024 by omega) (show n + 6 + 0 + 0 ≤ 7293034 by omega) (fun r3 u3 h3 => ?_)
  refine J_wq (show _ = LW G ol od u m z9 M2 f9 g from rfl) ?_
  subst h3
  refine J_iload hC dL_law_1299 1 rfl ?_
  refine J_ic_eq (tgt := 1306) hC dL_law_1301 (by decide) (fun _ => ?_) (fun c9 => absurd q1 c9)
  refine J_iload hC dL_law_1306 1 rfl ?_
  refine J_if_ne (tgt := 1330) hC dL_law_1308 (by decide) (fun c9 => ?_) (fun c9 => ?_)
  · refine J_goto (tgt := 2975) hC dL_law_1330 (by decide) ?_
    refine J_lv (lv' := lvL b u m ol od c) [2, 3, 4, 5, 6, 7] rfl ?_
    refine J_wid (k' := k + 4) (n' := n + 24) (show k + 1 + 0 + 0 ≤ k + 4 by omega) (show n + 6 + 0 + 0 ≤ n + 24 by omega) ?_
    exact kk z9 M2 f9 g q3
  · refine J_aload_n hC dL_law_1311 5 rfl rfl ?_
    refine J_iconst (v := nI 0) hC dL_law_1312 rfl ?_
    refine J_lald (i := 0) (v := f9 0) hC dL_law_1313 0 rfl (by decide) (by decide) rfl ?_
    refine J_iload hC dL_law_1314 0 rfl ?_
    refine J_if_eq (tgt := 1323) hC dL_law_1316 (by decide) (fun c8 => ?_) (fun c8 => ?_)
    · refine J_lconst (v := 0) hC dL_law_1323 rfl ?_
      refine J_lcmp hC dL_law_1324 ?_
      refine J_topi (show lg_cmp (f9 0) 0 = 0 from by rw [q2 c9, if_pos c8]; exact lg_cmp_self _) ?_
      refine J_if_eq (tgt := 1330) hC dL_law_1325 (by decide) (fun _ => ?_) (fun c7 => absurd rfl c7)
      refine J_goto (tgt := 2975) hC dL_law_1330 (by decide) ?_
      refine J_lv (lv' := lvL b u m ol od c) [2, 3, 4, 5, 6, 7] rfl ?_
      refine J_wid (k' := k + 4) (n' := n + 24) (show k + 1 + 0 + 0 ≤ k + 4 by omega) (show n + 6 + 0 + 0 ≤ n + 24 by omega) ?_
      exact kk z9 M2 f9 g q3
    · refine J_lconst (v := 1) hC dL_law_1319 rfl ?_
      refine J_goto (tgt := 1324) hC dL_law_1320 (by decide) ?_
      refine J_lcmp hC dL_law_1324 ?_
      refine J_topi (show lg_cmp (f9 0) 1 = 0 from by rw [q2 c9, if_neg c8]; exact lg_cmp_self _) ?_
      refine J_if_eq (tgt := 1330) hC dL_law_1325 (by decide) (fun _ => ?_) (fun c7 => absurd rfl c7)
      refine J_goto (tgt := 2975) hC dL_law_1330 (by decide) ?_
      refine J_lv (lv' := lvL b u m ol od c) [2, 3, 4, 5, 6, 7] rfl ?_
      refine J_wid (k' := k + 4) (n' := n + 24) (show k + 1 + 0 + 0 ≤ k + 4 by omega) (show n + 6 + 0 + 0 ≤ n + 24 by omega) ?_
      exact kk z9 M2 f9 g q3

set_option maxRecDepth 100000 in
set_option maxHeartbeats 4000000 in
theorem k_weatherOf {x : JX} {G : gT} {w0 : Cond} {b L : Nat} {xs : Nat → Int32} (hX : LX x G w0 b L xs) {ol od : Nat} {u : Nat → Nat → Nat} {m : Nat → Nat} {z : OS} {M : CT} {f : Nat → Int64} {g : Nat → UInt64} {c k n : Nat} (hp : 6 * c + 6 ≤ L) (h : REL c z M) (hk : k ≤ 600000) (hn : n ≤ 7200000) (kk : LK x G b ol od u m c k n) : J x G (LW G ol od u m z M f g) k n (lvL b u m ol od c) [] 1333 := by
  obtain ⟨hC, hst, hxT, hxN, hX, hbl, hbA, hL⟩ := hX
  have hc : c ≤ 600 := by omega
  refine J_aload_n hC dL_law_1333 1 rfl rfl ?_
  refine J_aload_n hC dL_law_1334 0 rfl rfl ?_
  refine J_iload hC dL_law_1335 5 rfl ?_
  refine J_iconst (v := nI 1) hC dL_law_1337 rfl ?_
  refine J_iadd (v := nI (6 * c + 1)) hC dL_law_1338 (nI_add _ _) ?_
  refine J_sald (v := xs (6 * c + 1)) hC hX hbl hbA dL_law_1339 (by omega) (by omega) rfl ?_
  refine J_aload_n hC dL_law_1340 0 rfl rfl ?_
  refine J_iload hC dL_law_1341 5 rfl ?_
  refine J_iconst (v := nI 2) hC dL_law_1343 rfl ?_
  refine J_iadd (v := nI (6 * c + 2)) hC dL_law_1344 (nI_add _ _) ?_
  refine J_sald (v := xs (6 * c + 2)) hC hX hbl hbA dL_law_1345 (by omega) (by omega) rfl ?_
  refine J_aload_n hC dL_law_1346 3 rfl rfl ?_
  refine J_callW hC hxT hxN dL_law_1347 wl_L_234 yw_weatherOf (lw_i (u := u) (m := m) (z := z) (z1 := fun (w : Nat) => z) (z2 := fun (_ : Nat) => z) (w_weatherOf (jl x) G (ofW G u z) (u 4 0) ol _ (of_0 G u z) (xs (6 * c + 1)) (xs (6 * c + 2)) f (b_weatherOf (jl x) G u z (xs (6 * c + 1)) (xs (6 * c + 2)) h.ci hst) (fun u9 hp9 => by
    rcases hp9 with ⟨e8, _⟩ | ⟨e8, _⟩
    · exact Or.inl (if_pos e8)
    · exact Or.inr (if_neg (by rw [e8]; decide))))) rfl rfl ⟨Nat.le_of_ble_eq_true rfl, Nat.le_of_ble_eq_true rfl⟩ (Nat.le_of_ble_eq_true rfl) (show k + 2 ≤ 601024 by omega) (show n + 12 ≤ 7293034 by omega) (fun r v hv => ?_)
  obtain ⟨z9, hz9⟩ : ∃ q, q = zW (fun (w : Nat) => z) (fun (_ : Nat) => z) v := ⟨_, rfl⟩
  obtain ⟨f9, hf9⟩ : ∃ q, q = fW f v := ⟨_, rfl⟩
  refine J_wq (show _ = LW G ol od u m z9 M f9 g from by rw [hz9, hf9]) ?_
  refine J_istore hC [(6, .int r), (0, .ref b), (1, .ref (u 4 0)), (2, .ref (m 0)), (3, .ref ol), (4, .ref od), (5, .int (nI (6 * c)))] dL_law_1350 (by decide) rfl ?_
  refine J_aload_n hC dL_law_1352 3 rfl rfl ?_
  refine J_aload_n hC dL_law_1353 1 rfl rfl ?_
  refine J_iload hC dL_law_1354 6 rfl ?_
  refine J_iconst (v := nI 1) hC dL_law_1356 rfl ?_
  refine J_iadd (v := nI (6 * c + 1)) hC dL_law_1357 (nI_add _ _) ?_
  refine J_sald (v := xs (6 * c + 1)) hC hX hbl hbA dL_law_1358 (by omega) (by omega) rfl ?_
  refine J_aload_n hC dL_law_1359 1 rfl rfl ?_
  refine J_iload hC dL_law_1360 6 rfl ?_
  refine J_iconst (v := nI 2) hC dL_law_1362 rfl ?_
  refine J_iadd (v := nI (6 * c + 2)) hC dL_law_1363 (nI_add _ _) ?_
  refine J_sald (v := xs (6 * c + 2)) hC hX hbl hbA dL_law_1364 (by omega) (by omega) rfl ?_
  obtain ⟨fs2, hm2⟩ := lw_m G ol od u m z9 M f9 g
  refine J_callVi hC dL_law_1365 wl_L_236 yi_X11_weatherOf (lm_i (c_X11_weatherOf _ G m M (m_vc (M 0)) (m_bc (M 0)) (xs (6 * c + 1)) (xs (6 * c + 2)) h.vc.1 h.vc.2 h.bc.1 h.bc.2)) rfl rfl 275 11 hm2 rfl ⟨Nat.le_of_ble_eq_true rfl, Nat.le_of_ble_eq_true rfl⟩ (Nat.le_of_ble_eq_true rfl) (show k + 2 + 0 ≤ 601024 by omega) (show n + 12 + 0 ≤ 7293034 by omega) (fun r2 M2 h2 => ?_)
  obtain ⟨q1, q2, q3⟩ := eq_weatherOf h hc (f := f) (xs (6 * c + 1)) (xs (6 * c + 2)) hv h2
  rw [← hz9] at q3
  rw [← hf9] at q2
  refine J_istore hC [(7, .int r2), (6, .int r), (0, .ref b), (1, .ref (u 4 0)), (2, .ref (m 0)), (3, .ref ol), (4, .ref od), (5, .int (nI (6 * c)))] dL_law_1368 (by decide) rfl ?_
  refine J_aload_n hC dL_law_1370 4 rfl rfl ?_
  obtain ⟨fs3, hm3⟩ := lw_m G ol od u m z9 M2 f9 g
  refine J_callVi hC dL_law_1371 wl_L_149 yi_X11_thrown (lm_i (c_X11_thrown _ G m M2)) rfl rfl 275 11 hm3 rfl ⟨Nat.le_of_ble_eq_true rfl, Nat.le_of_ble_eq_true rfl⟩ (Nat.le_of_ble_eq_true rfl) (show k + 2 + 0 + 0 ≤ 601024 by omega) (show n + 12 + 0 + 0 ≤ 7293034 by omega) (fun r3 u3 h3 => ?_)
  refine J_wq (show _ = LW G ol od u m z9 M2 f9 g from rfl) ?_
  subst h3
  refine J_iload hC dL_law_1374 1 rfl ?_
  refine J_ic_eq (tgt := 1381) hC dL_law_1376 (by decide) (fun _ => ?_) (fun c9 => absurd q1 c9)
  refine J_iload hC dL_law_1381 1 rfl ?_
  refine J_if_ne (tgt := 1398) hC dL_law_1383 (by decide) (fun c9 => ?_) (fun c9 => ?_)
  · refine J_goto (tgt := 2975) hC dL_law_1398 (by decide) ?_
    refine J_lv (lv' := lvL b u m ol od c) [2, 3, 4, 5, 6, 7] rfl ?_
    refine J_wid (k' := k + 4) (n' := n + 24) (show k + 2 + 0 + 0 ≤ k + 4 by omega) (show n + 12 + 0 + 0 ≤ n + 24 by omega) ?_
    exact kk z9 M2 f9 g q3
  · refine J_aload_n hC dL_law_1386 5 rfl rfl ?_
    refine J_iconst (v := nI 0) hC dL_law_1387 rfl ?_
    refine J_lald (i := 0) (v := f9 0) hC dL_law_1388 0 rfl (by decide) (by decide) rfl ?_
    refine J_iload hC dL_law_1389 0 rfl ?_
    refine J_i2l (v := r2.toInt64) hC dL_law_1391 rfl ?_
    refine J_lcmp hC dL_law_1392 ?_
    refine J_topi (show lg_cmp (f9 0) r2.toInt64 = 0 from by rw [q2 c9]; exact lg_cmp_self _) ?_
    refine J_if_eq (tgt := 1398) hC dL_law_1393 (by decide) (fun _ => ?_) (fun c8 => absurd rfl c8)
    refine J_goto (tgt := 2975) hC dL_law_1398 (by decide) ?_
    refine J_lv (lv' := lvL b u m ol od c) [2, 3, 4, 5, 6, 7] rfl ?_
    refine J_wid (k' := k + 4) (n' := n + 24) (show k + 2 + 0 + 0 ≤ k + 4 by omega) (show n + 12 + 0 + 0 ≤ n + 24 by omega) ?_
    exact kk z9 M2 f9 g q3

set_option maxRecDepth 100000 in
set_option maxHeartbeats 4000000 in
theorem k_soldOf {x : JX} {G : gT} {w0 : Cond} {b L : Nat} {xs : Nat → Int32} (hX : LX x G w0 b L xs) {ol od : Nat} {u : Nat → Nat → Nat} {m : Nat → Nat} {z : OS} {M : CT} {f : Nat → Int64} {g : Nat → UInt64} {c k n : Nat} (hp : 6 * c + 6 ≤ L) (h : REL c z M) (hk : k ≤ 600000) (hn : n ≤ 7200000) (kk : LK x G b ol od u m c k n) : J x G (LW G ol od u m z M f g) k n (lvL b u m ol od c) [] 1401 := by
  obtain ⟨hC, hst, hxT, hxN, hX, hbl, hbA, hL⟩ := hX
  have hc : c ≤ 600 := by omega
  refine J_aload_n hC dL_law_1401 1 rfl rfl ?_
  refine J_aload_n hC dL_law_1402 0 rfl rfl ?_
  refine J_iload hC dL_law_1403 5 rfl ?_
  refine J_iconst (v := nI 1) hC dL_law_1405 rfl ?_
  refine J_iadd (v := nI (6 * c + 1)) hC dL_law_1406 (nI_add _ _) ?_
  refine J_sald (v := xs (6 * c + 1)) hC hX hbl hbA dL_law_1407 (by omega) (by omega) rfl ?_
  refine J_aload_n hC dL_law_1408 0 rfl rfl ?_
  refine J_iload hC dL_law_1409 5 rfl ?_
  refine J_iconst (v := nI 2) hC dL_law_1411 rfl ?_
  refine J_iadd (v := nI (6 * c + 2)) hC dL_law_1412 (nI_add _ _) ?_
  refine J_sald (v := xs (6 * c + 2)) hC hX hbl hbA dL_law_1413 (by omega) (by omega) rfl ?_
  refine J_aload_n hC dL_law_1414 3 rfl rfl ?_
  refine J_callW hC hxT hxN dL_law_1415 wl_L_237 yw_soldOf (lw_i (u := u) (m := m) (z := z) (z1 := fun (w : Nat) => z) (z2 := fun (_ : Nat) => z) (w_soldOf (jl x) G (ofW G u z) (u 4 0) ol _ (of_0 G u z) (xs (6 * c + 1)) (xs (6 * c + 2)) f (b_soldOf (jl x) G u z (xs (6 * c + 1)) (xs (6 * c + 2)) h.ci hst) (fun u9 hp9 => by
    rcases hp9 with ⟨e8, _⟩ | ⟨e8, _⟩
    · exact Or.inl (if_pos e8)
    · exact Or.inr (if_neg (by rw [e8]; decide))))) rfl rfl ⟨Nat.le_of_ble_eq_true rfl, Nat.le_of_ble_eq_true rfl⟩ (Nat.le_of_ble_eq_true rfl) (show k + 2 ≤ 601024 by omega) (show n + 12 ≤ 7293034 by omega) (fun r v hv => ?_)
  obtain ⟨z9, hz9⟩ : ∃ q, q = zW (fun (w : Nat) => z) (fun (_ : Nat) => z) v := ⟨_, rfl⟩
  obtain ⟨f9, hf9⟩ : ∃ q, q = fW f v := ⟨_, rfl⟩
  refine J_wq (show _ = LW G ol od u m z9 M f9 g from by rw [hz9, hf9]) ?_
  refine J_istore hC [(6, .int r), (0, .ref b), (1, .ref (u 4 0)), (2, .ref (m 0)), (3, .ref ol), (4, .ref od), (5, .int (nI (6 * c)))] dL_law_1418 (by decide) rfl ?_
  refine J_aload_n hC dL_law_1420 3 rfl rfl ?_
  refine J_aload_n hC dL_law_1421 1 rfl rfl ?_
  refine J_iload hC dL_law_1422 6 rfl ?_
  refine J_iconst (v := nI 1) hC dL_law_1424 rfl ?_
  refine J_iadd (v := nI (6 * c + 1)) hC dL_law_1425 (nI_add _ _) ?_
  refine J_sald (v := xs (6 * c + 1)) hC hX hbl hbA dL_law_1426 (by omega) (by omega) rfl ?_
  refine J_aload_n hC dL_law_1427 1 rfl rfl ?_
  refine J_iload hC dL_law_1428 6 rfl ?_
  refine J_iconst (v := nI 2) hC dL_law_1430 rfl ?_
  refine J_iadd (v := nI (6 * c + 2)) hC dL_law_1431 (nI_add _ _) ?_
  refine J_sald (v := xs (6 * c + 2)) hC hX hbl hbA dL_law_1432 (by omega) (by omega) rfl ?_
  obtain ⟨fs2, hm2⟩ := lw_m G ol od u m z9 M f9 g
  refine J_callVi hC dL_law_1433 wl_L_239 yi_X11_soldOf (lm_i (c_X11_soldOf _ G m M (m_vc (M 0)) (m_bc (M 0)) (xs (6 * c + 1)) (xs (6 * c + 2)) h.vc.1 h.vc.2 h.bc.1 h.bc.2)) rfl rfl 275 11 hm2 rfl ⟨Nat.le_of_ble_eq_true rfl, Nat.le_of_ble_eq_true rfl⟩ (Nat.le_of_ble_eq_true rfl) (show k + 2 + 0 ≤ 601024 by omega) (show n + 12 + 0 ≤ 7293034 by omega) (fun r2 M2 h2 => ?_)
  obtain ⟨q1, q2, q3⟩ := eq_soldOf h hc (f := f) (xs (6 * c + 1)) (xs (6 * c + 2)) hv h2
  rw [← hz9] at q3
  rw [← hf9] at q2
  refine J_istore hC [(7, .int r2), (6, .int r), (0, .ref b), (1, .ref (u 4 0)), (2, .ref (m 0)), (3, .ref ol), (4, .ref od), (5, .int (nI (6 * c)))] dL_law_1436 (by decide) rfl ?_
  refine J_aload_n hC dL_law_1438 4 rfl rfl ?_
  obtain ⟨fs3, hm3⟩ := lw_m G ol od u m z9 M2 f9 g
  refine J_callVi hC dL_law_1439 wl_L_149 yi_X11_thrown (lm_i (c_X11_thrown _ G m M2)) rfl rfl 275 11 hm3 rfl ⟨Nat.le_of_ble_eq_true rfl, Nat.le_of_ble_eq_true rfl⟩ (Nat.le_of_ble_eq_true rfl) (show k + 2 + 0 + 0 ≤ 601024 by omega) (show n + 12 + 0 + 0 ≤ 7293034 by omega) (fun r3 u3 h3 => ?_)
  refine J_wq (show _ = LW G ol od u m z9 M2 f9 g from rfl) ?_
  subst h3
  refine J_iload hC dL_law_1442 1 rfl ?_
  refine J_ic_eq (tgt := 1449) hC dL_law_1444 (by decide) (fun _ => ?_) (fun c9 => absurd q1 c9)
  refine J_iload hC dL_law_1449 1 rfl ?_
  refine J_if_ne (tgt := 1466) hC dL_law_1451 (by decide) (fun c9 => ?_) (fun c9 => ?_)
  · refine J_goto (tgt := 2975) hC dL_law_1466 (by decide) ?_
    refine J_lv (lv' := lvL b u m ol od c) [2, 3, 4, 5, 6, 7] rfl ?_
    refine J_wid (k' := k + 4) (n' := n + 24) (show k + 2 + 0 + 0 ≤ k + 4 by omega) (show n + 12 + 0 + 0 ≤ n + 24 by omega) ?_
    exact kk z9 M2 f9 g q3
  · refine J_aload_n hC dL_law_1454 5 rfl rfl ?_
    refine J_iconst (v := nI 0) hC dL_law_1455 rfl ?_
    refine J_lald (i := 0) (v := f9 0) hC dL_law_1456 0 rfl (by decide) (by decide) rfl ?_
    refine J_iload hC dL_law_1457 0 rfl ?_
    refine J_i2l (v := r2.toInt64) hC dL_law_1459 rfl ?_
    refine J_lcmp hC dL_law_1460 ?_
    refine J_topi (show lg_cmp (f9 0) r2.toInt64 = 0 from by rw [q2 c9]; exact lg_cmp_self _) ?_
    refine J_if_eq (tgt := 1466) hC dL_law_1461 (by decide) (fun _ => ?_) (fun c8 => absurd rfl c8)
    refine J_goto (tgt := 2975) hC dL_law_1466 (by decide) ?_
    refine J_lv (lv' := lvL b u m ol od c) [2, 3, 4, 5, 6, 7] rfl ?_
    refine J_wid (k' := k + 4) (n' := n + 24) (show k + 2 + 0 + 0 ≤ k + 4 by omega) (show n + 12 + 0 + 0 ≤ n + 24 by omega) ?_
    exact kk z9 M2 f9 g q3

set_option maxRecDepth 100000 in
set_option maxHeartbeats 4000000 in
theorem k_paidOf {x : JX} {G : gT} {w0 : Cond} {b L : Nat} {xs : Nat → Int32} (hX : LX x G w0 b L xs) {ol od : Nat} {u : Nat → Nat → Nat} {m : Nat → Nat} {z : OS} {M : CT} {f : Nat → Int64} {g : Nat → UInt64} {c k n : Nat} (hp : 6 * c + 6 ≤ L) (h : REL c z M) (hk : k ≤ 600000) (hn : n ≤ 7200000) (kk : LK x G b ol od u m c k n) : J x G (LW G ol od u m z M f g) k n (lvL b u m ol od c) [] 1469 := by
  obtain ⟨hC, hst, hxT, hxN, hX, hbl, hbA, hL⟩ := hX
  have hc : c ≤ 600 := by omega
  refine J_aload_n hC dL_law_1469 1 rfl rfl ?_
  refine J_aload_n hC dL_law_1470 0 rfl rfl ?_
  refine J_iload hC dL_law_1471 5 rfl ?_
  refine J_iconst (v := nI 1) hC dL_law_1473 rfl ?_
  refine J_iadd (v := nI (6 * c + 1)) hC dL_law_1474 (nI_add _ _) ?_
  refine J_sald (v := xs (6 * c + 1)) hC hX hbl hbA dL_law_1475 (by omega) (by omega) rfl ?_
  refine J_aload_n hC dL_law_1476 0 rfl rfl ?_
  refine J_iload hC dL_law_1477 5 rfl ?_
  refine J_iconst (v := nI 2) hC dL_law_1479 rfl ?_
  refine J_iadd (v := nI (6 * c + 2)) hC dL_law_1480 (nI_add _ _) ?_
  refine J_sald (v := xs (6 * c + 2)) hC hX hbl hbA dL_law_1481 (by omega) (by omega) rfl ?_
  refine J_aload_n hC dL_law_1482 3 rfl rfl ?_
  refine J_callW hC hxT hxN dL_law_1483 wl_L_240 yw_paidOf (lw_i (u := u) (m := m) (z := z) (z1 := fun (w : Nat) => z) (z2 := fun (_ : Nat) => z) (w_paidOf (jl x) G (ofW G u z) (u 4 0) ol _ (of_0 G u z) (xs (6 * c + 1)) (xs (6 * c + 2)) f (b_paidOf (jl x) G u z (xs (6 * c + 1)) (xs (6 * c + 2)) h.ci hst) (fun u9 hp9 => by
    rcases hp9 with ⟨e8, _⟩ | ⟨e8, _⟩
    · exact Or.inl (if_pos e8)
    · exact Or.inr (if_neg (by rw [e8]; decide))))) rfl rfl ⟨Nat.le_of_ble_eq_true rfl, Nat.le_of_ble_eq_true rfl⟩ (Nat.le_of_ble_eq_true rfl) (show k + 2 ≤ 601024 by omega) (show n + 12 ≤ 7293034 by omega) (fun r v hv => ?_)
  obtain ⟨z9, hz9⟩ : ∃ q, q = zW (fun (w : Nat) => z) (fun (_ : Nat) => z) v := ⟨_, rfl⟩
  obtain ⟨f9, hf9⟩ : ∃ q, q = fW f v := ⟨_, rfl⟩
  refine J_wq (show _ = LW G ol od u m z9 M f9 g from by rw [hz9, hf9]) ?_
  refine J_istore hC [(6, .int r), (0, .ref b), (1, .ref (u 4 0)), (2, .ref (m 0)), (3, .ref ol), (4, .ref od), (5, .int (nI (6 * c)))] dL_law_1486 (by decide) rfl ?_
  refine J_aload_n hC dL_law_1488 3 rfl rfl ?_
  refine J_aload_n hC dL_law_1489 1 rfl rfl ?_
  refine J_iload hC dL_law_1490 6 rfl ?_
  refine J_iconst (v := nI 1) hC dL_law_1492 rfl ?_
  refine J_iadd (v := nI (6 * c + 1)) hC dL_law_1493 (nI_add _ _) ?_
  refine J_sald (v := xs (6 * c + 1)) hC hX hbl hbA dL_law_1494 (by omega) (by omega) rfl ?_
  refine J_aload_n hC dL_law_1495 1 rfl rfl ?_
  refine J_iload hC dL_law_1496 6 rfl ?_
  refine J_iconst (v := nI 2) hC dL_law_1498 rfl ?_
  refine J_iadd (v := nI (6 * c + 2)) hC dL_law_1499 (nI_add _ _) ?_
  refine J_sald (v := xs (6 * c + 2)) hC hX hbl hbA dL_law_1500 (by omega) (by omega) rfl ?_
  obtain ⟨fs2, hm2⟩ := lw_m G ol od u m z9 M f9 g
  refine J_callVi hC dL_law_1501 wl_L_242 yi_X11_paidOf (lm_i (c_X11_paidOf _ G m M (m_vc (M 0)) (m_bc (M 0)) (xs (6 * c + 1)) (xs (6 * c + 2)) h.vc.1 h.vc.2 h.bc.1 h.bc.2)) rfl rfl 275 11 hm2 rfl ⟨Nat.le_of_ble_eq_true rfl, Nat.le_of_ble_eq_true rfl⟩ (Nat.le_of_ble_eq_true rfl) (show k + 2 + 0 ≤ 601024 by omega) (show n + 12 + 0 ≤ 7293034 by omega) (fun r2 M2 h2 => ?_)
  obtain ⟨q1, q2, q3⟩ := eq_paidOf h hc (f := f) (xs (6 * c + 1)) (xs (6 * c + 2)) hv h2
  rw [← hz9] at q3
  rw [← hf9] at q2
  refine J_istore hC [(7, .int r2), (6, .int r), (0, .ref b), (1, .ref (u 4 0)), (2, .ref (m 0)), (3, .ref ol), (4, .ref od), (5, .int (nI (6 * c)))] dL_law_1504 (by decide) rfl ?_
  refine J_aload_n hC dL_law_1506 4 rfl rfl ?_
  obtain ⟨fs3, hm3⟩ := lw_m G ol od u m z9 M2 f9 g
  refine J_callVi hC dL_law_1507 wl_L_149 yi_X11_thrown (lm_i (c_X11_thrown _ G m M2)) rfl rfl 275 11 hm3 rfl ⟨Nat.le_of_ble_eq_true rfl, Nat.le_of_ble_eq_true rfl⟩ (Nat.le_of_ble_eq_true rfl) (show k + 2 + 0 + 0 ≤ 601024 by omega) (show n + 12 + 0 + 0 ≤ 7293034 by omega) (fun r3 u3 h3 => ?_)
  refine J_wq (show _ = LW G ol od u m z9 M2 f9 g from rfl) ?_
  subst h3
  refine J_iload hC dL_law_1510 1 rfl ?_
  refine J_ic_eq (tgt := 1517) hC dL_law_1512 (by decide) (fun _ => ?_) (fun c9 => absurd q1 c9)
  refine J_iload hC dL_law_1517 1 rfl ?_
  refine J_if_ne (tgt := 1534) hC dL_law_1519 (by decide) (fun c9 => ?_) (fun c9 => ?_)
  · refine J_goto (tgt := 2975) hC dL_law_1534 (by decide) ?_
    refine J_lv (lv' := lvL b u m ol od c) [2, 3, 4, 5, 6, 7] rfl ?_
    refine J_wid (k' := k + 4) (n' := n + 24) (show k + 2 + 0 + 0 ≤ k + 4 by omega) (show n + 12 + 0 + 0 ≤ n + 24 by omega) ?_
    exact kk z9 M2 f9 g q3
  · refine J_aload_n hC dL_law_1522 5 rfl rfl ?_
    refine J_iconst (v := nI 0) hC dL_law_1523 rfl ?_
    refine J_lald (i := 0) (v := f9 0) hC dL_law_1524 0 rfl (by decide) (by decide) rfl ?_
    refine J_iload hC dL_law_1525 0 rfl ?_
    refine J_i2l (v := r2.toInt64) hC dL_law_1527 rfl ?_
    refine J_lcmp hC dL_law_1528 ?_
    refine J_topi (show lg_cmp (f9 0) r2.toInt64 = 0 from by rw [q2 c9]; exact lg_cmp_self _) ?_
    refine J_if_eq (tgt := 1534) hC dL_law_1529 (by decide) (fun _ => ?_) (fun c8 => absurd rfl c8)
    refine J_goto (tgt := 2975) hC dL_law_1534 (by decide) ?_
    refine J_lv (lv' := lvL b u m ol od c) [2, 3, 4, 5, 6, 7] rfl ?_
    refine J_wid (k' := k + 4) (n' := n + 24) (show k + 2 + 0 + 0 ≤ k + 4 by omega) (show n + 12 + 0 + 0 ≤ n + 24 by omega) ?_
    exact kk z9 M2 f9 g q3

set_option maxRecDepth 100000 in
set_option maxHeartbeats 4000000 in
theorem k_pageOf {x : JX} {G : gT} {w0 : Cond} {b L : Nat} {xs : Nat → Int32} (hX : LX x G w0 b L xs) {ol od : Nat} {u : Nat → Nat → Nat} {m : Nat → Nat} {z : OS} {M : CT} {f : Nat → Int64} {g : Nat → UInt64} {c k n : Nat} (hp : 6 * c + 6 ≤ L) (h : REL c z M) (hk : k ≤ 600000) (hn : n ≤ 7200000) (kk : LK x G b ol od u m c k n) : J x G (LW G ol od u m z M f g) k n (lvL b u m ol od c) [] 1537 := by
  obtain ⟨hC, hst, hxT, hxN, hX, hbl, hbA, hL⟩ := hX
  have hc : c ≤ 600 := by omega
  refine J_aload_n hC dL_law_1537 1 rfl rfl ?_
  refine J_aload_n hC dL_law_1538 0 rfl rfl ?_
  refine J_iload hC dL_law_1539 5 rfl ?_
  refine J_iconst (v := nI 1) hC dL_law_1541 rfl ?_
  refine J_iadd (v := nI (6 * c + 1)) hC dL_law_1542 (nI_add _ _) ?_
  refine J_sald (v := xs (6 * c + 1)) hC hX hbl hbA dL_law_1543 (by omega) (by omega) rfl ?_
  refine J_aload_n hC dL_law_1544 0 rfl rfl ?_
  refine J_iload hC dL_law_1545 5 rfl ?_
  refine J_iconst (v := nI 2) hC dL_law_1547 rfl ?_
  refine J_iadd (v := nI (6 * c + 2)) hC dL_law_1548 (nI_add _ _) ?_
  refine J_sald (v := xs (6 * c + 2)) hC hX hbl hbA dL_law_1549 (by omega) (by omega) rfl ?_
  refine J_aload_n hC dL_law_1550 3 rfl rfl ?_
  refine J_callW hC hxT hxN dL_law_1551 wl_L_243 yw_pageOf (lw_i (u := u) (m := m) (z := z) (z1 := fun (w : Nat) => z) (z2 := fun (_ : Nat) => z) (w_pageOf (jl x) G (ofW G u z) (u 4 0) ol _ (of_0 G u z) (xs (6 * c + 1)) (xs (6 * c + 2)) f (b_pageOf (jl x) G u z (xs (6 * c + 1)) (xs (6 * c + 2)) h.ci hst) (fun u9 hp9 => by
    rcases hp9 with ⟨e8, _⟩ | ⟨e8, _⟩
    · exact Or.inl (if_pos e8)
    · exact Or.inr (if_neg (by rw [e8]; decide))))) rfl rfl ⟨Nat.le_of_ble_eq_true rfl, Nat.le_of_ble_eq_true rfl⟩ (Nat.le_of_ble_eq_true rfl) (show k + 2 ≤ 601024 by omega) (show n + 12 ≤ 7293034 by omega) (fun r v hv => ?_)
  obtain ⟨z9, hz9⟩ : ∃ q, q = zW (fun (w : Nat) => z) (fun (_ : Nat) => z) v := ⟨_, rfl⟩
  obtain ⟨f9, hf9⟩ : ∃ q, q = fW f v := ⟨_, rfl⟩
  refine J_wq (show _ = LW G ol od u m z9 M f9 g from by rw [hz9, hf9]) ?_
  refine J_istore hC [(6, .int r), (0, .ref b), (1, .ref (u 4 0)), (2, .ref (m 0)), (3, .ref ol), (4, .ref od), (5, .int (nI (6 * c)))] dL_law_1554 (by decide) rfl ?_
  refine J_aload_n hC dL_law_1556 3 rfl rfl ?_
  refine J_aload_n hC dL_law_1557 1 rfl rfl ?_
  refine J_iload hC dL_law_1558 6 rfl ?_
  refine J_iconst (v := nI 1) hC dL_law_1560 rfl ?_
  refine J_iadd (v := nI (6 * c + 1)) hC dL_law_1561 (nI_add _ _) ?_
  refine J_sald (v := xs (6 * c + 1)) hC hX hbl hbA dL_law_1562 (by omega) (by omega) rfl ?_
  refine J_aload_n hC dL_law_1563 1 rfl rfl ?_
  refine J_iload hC dL_law_1564 6 rfl ?_
  refine J_iconst (v := nI 2) hC dL_law_1566 rfl ?_
  refine J_iadd (v := nI (6 * c + 2)) hC dL_law_1567 (nI_add _ _) ?_
  refine J_sald (v := xs (6 * c + 2)) hC hX hbl hbA dL_law_1568 (by omega) (by omega) rfl ?_
  obtain ⟨fs2, hm2⟩ := lw_m G ol od u m z9 M f9 g
  refine J_callVi hC dL_law_1569 wl_L_245 yi_X11_pageOf (lm_i (c_X11_pageOf _ G m M (m_vc (M 0)) (m_bc (M 0)) (xs (6 * c + 1)) (xs (6 * c + 2)) h.vc.1 h.vc.2 h.bc.1 h.bc.2)) rfl rfl 275 11 hm2 rfl ⟨Nat.le_of_ble_eq_true rfl, Nat.le_of_ble_eq_true rfl⟩ (Nat.le_of_ble_eq_true rfl) (show k + 2 + 0 ≤ 601024 by omega) (show n + 12 + 0 ≤ 7293034 by omega) (fun r2 M2 h2 => ?_)
  obtain ⟨q1, q2, q3⟩ := eq_pageOf h hc (f := f) (xs (6 * c + 1)) (xs (6 * c + 2)) hv h2
  rw [← hz9] at q3
  rw [← hf9] at q2
  refine J_istore hC [(7, .int r2), (6, .int r), (0, .ref b), (1, .ref (u 4 0)), (2, .ref (m 0)), (3, .ref ol), (4, .ref od), (5, .int (nI (6 * c)))] dL_law_1572 (by decide) rfl ?_
  refine J_aload_n hC dL_law_1574 4 rfl rfl ?_
  obtain ⟨fs3, hm3⟩ := lw_m G ol od u m z9 M2 f9 g
  refine J_callVi hC dL_law_1575 wl_L_149 yi_X11_thrown (lm_i (c_X11_thrown _ G m M2)) rfl rfl 275 11 hm3 rfl ⟨Nat.le_of_ble_eq_true rfl, Nat.le_of_ble_eq_true rfl⟩ (Nat.le_of_ble_eq_true rfl) (show k + 2 + 0 + 0 ≤ 601024 by omega) (show n + 12 + 0 + 0 ≤ 7293034 by omega) (fun r3 u3 h3 => ?_)
  refine J_wq (show _ = LW G ol od u m z9 M2 f9 g from rfl) ?_
  subst h3
  refine J_iload hC dL_law_1578 1 rfl ?_
  refine J_ic_eq (tgt := 1585) hC dL_law_1580 (by decide) (fun _ => ?_) (fun c9 => absurd q1 c9)
  refine J_iload hC dL_law_1585 1 rfl ?_
  refine J_if_ne (tgt := 1602) hC dL_law_1587 (by decide) (fun c9 => ?_) (fun c9 => ?_)
  · refine J_goto (tgt := 2975) hC dL_law_1602 (by decide) ?_
    refine J_lv (lv' := lvL b u m ol od c) [2, 3, 4, 5, 6, 7] rfl ?_
    refine J_wid (k' := k + 4) (n' := n + 24) (show k + 2 + 0 + 0 ≤ k + 4 by omega) (show n + 12 + 0 + 0 ≤ n + 24 by omega) ?_
    exact kk z9 M2 f9 g q3
  · refine J_aload_n hC dL_law_1590 5 rfl rfl ?_
    refine J_iconst (v := nI 0) hC dL_law_1591 rfl ?_
    refine J_lald (i := 0) (v := f9 0) hC dL_law_1592 0 rfl (by decide) (by decide) rfl ?_
    refine J_iload hC dL_law_1593 0 rfl ?_
    refine J_i2l (v := r2.toInt64) hC dL_law_1595 rfl ?_
    refine J_lcmp hC dL_law_1596 ?_
    refine J_topi (show lg_cmp (f9 0) r2.toInt64 = 0 from by rw [q2 c9]; exact lg_cmp_self _) ?_
    refine J_if_eq (tgt := 1602) hC dL_law_1597 (by decide) (fun _ => ?_) (fun c8 => absurd rfl c8)
    refine J_goto (tgt := 2975) hC dL_law_1602 (by decide) ?_
    refine J_lv (lv' := lvL b u m ol od c) [2, 3, 4, 5, 6, 7] rfl ?_
    refine J_wid (k' := k + 4) (n' := n + 24) (show k + 2 + 0 + 0 ≤ k + 4 by omega) (show n + 12 + 0 + 0 ≤ n + 24 by omega) ?_
    exact kk z9 M2 f9 g q3

set_option maxRecDepth 100000 in
set_option maxHeartbeats 4000000 in
theorem k_forecastAt {x : JX} {G : gT} {w0 : Cond} {b L : Nat} {xs : Nat → Int32} (hX : LX x G w0 b L xs) {ol od : Nat} {u : Nat → Nat → Nat} {m : Nat → Nat} {z : OS} {M : CT} {f : Nat → Int64} {g : Nat → UInt64} {c k n : Nat} (hp : 6 * c + 6 ≤ L) (h : REL c z M) (hk : k ≤ 600000) (hn : n ≤ 7200000) (kk : LK x G b ol od u m c k n) : J x G (LW G ol od u m z M f g) k n (lvL b u m ol od c) [] 1605 := by
  obtain ⟨hC, hst, hxT, hxN, hX, hbl, hbA, hL⟩ := hX
  have hc : c ≤ 600 := by omega
  refine J_aload_n hC dL_law_1605 1 rfl rfl ?_
  refine J_aload_n hC dL_law_1606 0 rfl rfl ?_
  refine J_iload hC dL_law_1607 5 rfl ?_
  refine J_iconst (v := nI 1) hC dL_law_1609 rfl ?_
  refine J_iadd (v := nI (6 * c + 1)) hC dL_law_1610 (nI_add _ _) ?_
  refine J_sald (v := xs (6 * c + 1)) hC hX hbl hbA dL_law_1611 (by omega) (by omega) rfl ?_
  refine J_aload_n hC dL_law_1612 3 rfl rfl ?_
  refine J_callW hC hxT hxN dL_law_1613 wl_L_246 yw_forecastAt (lw_i (u := u) (m := m) (z := z) (z1 := fun (w : Nat) => z) (z2 := fun (_ : Unit) => z) (w_forecastAt (jl x) G (ofW G u z) (u 4 0) ol _ (of_0 G u z) (xs (6 * c + 1)) f (b_forecastAt (jl x) G u z (xs (6 * c + 1)) h.ci hst) (fun _ _ => rfl))) rfl rfl ⟨Nat.le_of_ble_eq_true rfl, Nat.le_of_ble_eq_true rfl⟩ (Nat.le_of_ble_eq_true rfl) (show k + 1 ≤ 601024 by omega) (show n + 6 ≤ 7293034 by omega) (fun r v hv => ?_)
  obtain ⟨z9, hz9⟩ : ∃ q, q = zW (fun (w : Nat) => z) (fun (_ : Unit) => z) v := ⟨_, rfl⟩
  obtain ⟨f9, hf9⟩ : ∃ q, q = fW f v := ⟨_, rfl⟩
  refine J_wq (show _ = LW G ol od u m z9 M f9 g from by rw [hz9, hf9]) ?_
  refine J_istore hC [(6, .int r), (0, .ref b), (1, .ref (u 4 0)), (2, .ref (m 0)), (3, .ref ol), (4, .ref od), (5, .int (nI (6 * c)))] dL_law_1616 (by decide) rfl ?_
  refine J_aload_n hC dL_law_1618 3 rfl rfl ?_
  refine J_aload_n hC dL_law_1619 1 rfl rfl ?_
  refine J_iload hC dL_law_1620 6 rfl ?_
  refine J_iconst (v := nI 1) hC dL_law_1622 rfl ?_
  refine J_iadd (v := nI (6 * c + 1)) hC dL_law_1623 (nI_add _ _) ?_
  refine J_sald (v := xs (6 * c + 1)) hC hX hbl hbA dL_law_1624 (by omega) (by omega) rfl ?_
  obtain ⟨fs2, hm2⟩ := lw_m G ol od u m z9 M f9 g
  refine J_callVi hC dL_law_1625 wl_L_248 yi_X11_forecastAt (lm_i (c_X11_forecastAt _ G m M (m_bc (M 0)) (xs (6 * c + 1)) h.bc.1 h.bc.2)) rfl rfl 275 11 hm2 rfl ⟨Nat.le_of_ble_eq_true rfl, Nat.le_of_ble_eq_true rfl⟩ (Nat.le_of_ble_eq_true rfl) (show k + 1 + 0 ≤ 601024 by omega) (show n + 6 + 0 ≤ 7293034 by omega) (fun r2 M2 h2 => ?_)
  obtain ⟨q1, q2, q3⟩ := eq_forecastAt h hc (f := f) (xs (6 * c + 1)) hv h2
  rw [← hz9] at q3
  rw [← hf9] at q2
  refine J_istore hC [(7, .int r2), (6, .int r), (0, .ref b), (1, .ref (u 4 0)), (2, .ref (m 0)), (3, .ref ol), (4, .ref od), (5, .int (nI (6 * c)))] dL_law_1628 (by decide) rfl ?_
  refine J_aload_n hC dL_law_1630 4 rfl rfl ?_
  obtain ⟨fs3, hm3⟩ := lw_m G ol od u m z9 M2 f9 g
  refine J_callVi hC dL_law_1631 wl_L_149 yi_X11_thrown (lm_i (c_X11_thrown _ G m M2)) rfl rfl 275 11 hm3 rfl ⟨Nat.le_of_ble_eq_true rfl, Nat.le_of_ble_eq_true rfl⟩ (Nat.le_of_ble_eq_true rfl) (show k + 1 + 0 + 0 ≤ 601024 by omega) (show n + 6 + 0 + 0 ≤ 7293034 by omega) (fun r3 u3 h3 => ?_)
  refine J_wq (show _ = LW G ol od u m z9 M2 f9 g from rfl) ?_
  subst h3
  refine J_iload hC dL_law_1634 1 rfl ?_
  refine J_ic_eq (tgt := 1641) hC dL_law_1636 (by decide) (fun _ => ?_) (fun c9 => absurd q1 c9)
  refine J_iload hC dL_law_1641 1 rfl ?_
  refine J_if_ne (tgt := 1658) hC dL_law_1643 (by decide) (fun c9 => ?_) (fun c9 => ?_)
  · refine J_goto (tgt := 2975) hC dL_law_1658 (by decide) ?_
    refine J_lv (lv' := lvL b u m ol od c) [2, 3, 4, 5, 6, 7] rfl ?_
    refine J_wid (k' := k + 4) (n' := n + 24) (show k + 1 + 0 + 0 ≤ k + 4 by omega) (show n + 6 + 0 + 0 ≤ n + 24 by omega) ?_
    exact kk z9 M2 f9 g q3
  · refine J_aload_n hC dL_law_1646 5 rfl rfl ?_
    refine J_iconst (v := nI 0) hC dL_law_1647 rfl ?_
    refine J_lald (i := 0) (v := f9 0) hC dL_law_1648 0 rfl (by decide) (by decide) rfl ?_
    refine J_iload hC dL_law_1649 0 rfl ?_
    refine J_i2l (v := r2.toInt64) hC dL_law_1651 rfl ?_
    refine J_lcmp hC dL_law_1652 ?_
    refine J_topi (show lg_cmp (f9 0) r2.toInt64 = 0 from by rw [q2 c9]; exact lg_cmp_self _) ?_
    refine J_if_eq (tgt := 1658) hC dL_law_1653 (by decide) (fun _ => ?_) (fun c8 => absurd rfl c8)
    refine J_goto (tgt := 2975) hC dL_law_1658 (by decide) ?_
    refine J_lv (lv' := lvL b u m ol od c) [2, 3, 4, 5, 6, 7] rfl ?_
    refine J_wid (k' := k + 4) (n' := n + 24) (show k + 1 + 0 + 0 ≤ k + 4 by omega) (show n + 6 + 0 + 0 ≤ n + 24 by omega) ?_
    exact kk z9 M2 f9 g q3

set_option maxRecDepth 100000 in
set_option maxHeartbeats 4000000 in
theorem k_pageCount {x : JX} {G : gT} {w0 : Cond} {b L : Nat} {xs : Nat → Int32} (hX : LX x G w0 b L xs) {ol od : Nat} {u : Nat → Nat → Nat} {m : Nat → Nat} {z : OS} {M : CT} {f : Nat → Int64} {g : Nat → UInt64} {c k n : Nat} (hp : 6 * c + 6 ≤ L) (h : REL c z M) (hk : k ≤ 600000) (hn : n ≤ 7200000) (kk : LK x G b ol od u m c k n) : J x G (LW G ol od u m z M f g) k n (lvL b u m ol od c) [] 1661 := by
  obtain ⟨hC, hst, hxT, hxN, hX, hbl, hbA, hL⟩ := hX
  have hc : c ≤ 600 := by omega
  refine J_aload_n hC dL_law_1661 1 rfl rfl ?_
  refine J_callVi hC dL_law_1662 wl_L_249 yi_X10_pageCount (lo_i (c_X10_pageCount _ G (u 4 0) (oR u) (u 0) (zS z) (zc z) (zp z) h.ci) (pf_o G u z)) rfl rfl 1 10 (lw_o G ol od u m z M f g) rfl ⟨Nat.le_of_ble_eq_true rfl, Nat.le_of_ble_eq_true rfl⟩ (Nat.le_of_ble_eq_true rfl) (show k + 0 ≤ 601024 by omega) (show n + 0 ≤ 7293034 by omega) (fun r1 u1 h1 => ?_)
  refine J_wq (show _ = LW G ol od u m z M f g from rfl) ?_
  refine J_aload_n hC dL_law_1665 2 rfl rfl ?_
  obtain ⟨fs2, hm2⟩ := lw_m G ol od u m z M f g
  refine J_callVi hC dL_law_1666 wl_L_252 yi_X11_pageCount (lm_i (F := fun _ => (us M 8 2 0)) (c_X11_pageCount _ G m M (m_bc (M 0)) h.bc.1 h.bc.2)) rfl rfl 275 11 hm2 rfl ⟨Nat.le_of_ble_eq_true rfl, Nat.le_of_ble_eq_true rfl⟩ (Nat.le_of_ble_eq_true rfl) (show k + 0 + 0 ≤ 601024 by omega) (show n + 0 + 0 ≤ 7293034 by omega) (fun r2 u2 h2 => ?_)
  refine J_wq (show _ = LW G ol od u m z (us M 8 2 0) f g from rfl) ?_
  have q1 : r1 = r2 := eq_pageCount h hc h1 h2
  refine J_ic_eq (tgt := 2975) hC dL_law_1669 (by decide) (fun _ => ?_) (fun c9 => absurd q1 c9)
  refine J_wid (k' := k + 4) (n' := n + 24) (show k + 0 + 0 ≤ k + 4 by omega) (show n + 0 + 0 ≤ n + 24 by omega) ?_
  exact kk z (us M 8 2 0) f g (h.thr 0)

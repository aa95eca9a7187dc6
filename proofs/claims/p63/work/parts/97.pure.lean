/-! PURE: what the Hand's walks still owe -/
theorem clamp_lo {x : Int32} (h : x ≤ 100) : clampT x = if 0 < x then x else 0 := by
  unfold clampT
  by_cases h0 : 0 < x
  · rw [if_pos (Int32.le_of_lt h0), if_pos h, if_pos h0]
  · rw [if_neg h0]
    by_cases h1 : 0 ≤ x
    · rw [if_pos h1, if_pos h]
      exact Int32.le_antisymm (Int32.not_lt.mp h0) h1
    · rw [if_neg h1]
theorem clamp_hi {x : Int32} (h : 0 ≤ x) : clampT x = if x < 100 then x else 100 := by
  unfold clampT
  rw [if_pos h]
  by_cases h0 : x < 100
  · rw [if_pos (Int32.le_of_lt h0), if_pos h0]
  · rw [if_neg h0]
    by_cases h1 : x ≤ 100
    · rw [if_pos h1]
      exact Int32.le_antisymm h1 (Int32.not_lt.mp h0)
    · rw [if_neg h1]
theorem clamp_nI (x : Int32) : ∃ t, t ≤ 100 ∧ clampT x = nI t := by
  unfold clampT
  split
  · next h =>
    split
    · next h1 =>
      obtain ⟨j, hj, rfl⟩ := nI_of (Int32.not_lt.mpr h)
      refine ⟨j, ?_, rfl⟩
      have h9 := Int32.le_iff_toInt_le.mp h1
      rw [nI_toInt hj] at h9
      have : ((100 : Int32)).toInt = 100 := rfl
      omega
    · exact ⟨100, by omega, rfl⟩
  · exact ⟨0, by omega, rfl⟩
theorem sub_le100 {t c : Nat} (ht : t ≤ 100) (hc : c ≤ 100) : nI t - nI c ≤ 100 := by
  rw [Int32.le_iff_toInt_le, pk_sub_toInt (by omega) (by omega)]
  have : ((100 : Int32)).toInt = 100 := rfl
  omega
theorem tr_up {t : Nat} (ht : t ≤ 100) : clampT (nI t + 5) = if nI t + 5 < 100 then nI t + 5 else 100 := clamp_hi (by rw [show (5 : Int32) = nI 5 from rfl, nI_add]; exact nI_le (a := 0) (by omega) (by omega))
theorem tr_dn {t : Nat} (ht : t ≤ 100) {c : Nat} (hc : c ≤ 100) : clampT (nI t + -nI c) = if 0 < nI t - nI c then nI t - nI c else 0 := by
  rw [← Int32.sub_eq_add_neg]
  exact clamp_lo (sub_le100 ht hc)
theorem seed_nI {sd : Nat} (h : sd < 1024) : s_seed (nI sd) = nI ((29 * sd + 11) % 1024) := by
  unfold s_seed imod
  rw [show (29 : Int32) = nI 29 from rfl, pk_mul, show (11 : Int32) = nI 11 from rfl, nI_add]
  exact nMd (by omega) (by decide) (by decide)
theorem draw_hv' {n mc : Nat} {S : CT} (hS : HV n mc S) : HV n mc (s_draw S) := by
  obtain ⟨h1, h2, h3, h4, h5, h6, h7, ⟨sd, hsd, h8⟩, h9⟩ := hS
  exact ⟨h1, h2, h3, h4, h5, h6, h7, ⟨(29 * sd + 11) % 1024, Nat.mod_lt _ (by decide), by show s_seed (S 16 11) = _; rw [h8]; exact seed_nI hsd⟩, h9⟩
theorem HV.trust {n mc vg : Nat} {S : CT} (hS : HV n mc S) (hvg : vg < 3) {w : Int32} (hw : ∃ t, t ≤ 100 ∧ w = nI t) : HV n mc (us S 2 vg w) := by
  obtain ⟨h1, h2, h3, h4, h5, h6, h7, h8, h9⟩ := hS
  refine ⟨h1, h2, h3, h4, fun k hk => ?_, h6, h7, h8, h9⟩
  obtain ⟨p, t, o, a1, a2, a3, a4, a5, a6, a7⟩ := h5 k hk
  obtain ⟨t9, ht9, rfl⟩ := hw
  by_cases hkv : k = vg
  · subst hkv
    exact ⟨p, t9, o, a1, a2, ht9, a4, a5, if_pos rfl, a7⟩
  · exact ⟨p, t, o, a1, a2, a3, a4, a5, (if_neg hkv : upd (S 2) vg (nI t9) k = S 2 k).trans a6, a7⟩
theorem rem_n {n k : Nat} (hk : k < n) (X : CT) : s_remove X k (k + 1) n 16 12 = nI (n - 1) := by
  have e : k + (n - (k + 1)) = n - 1 := by omega
  show nI (k + (n - (k + 1))) = _
  rw [e]
theorem HV.rem {n mc k : Nat} {S : CT} (hS : HV n mc S) (hk : k < n) : HV (n - 1) mc (s_remove S k (k + 1) n) := by
  obtain ⟨h1, h2, h3, h4, h5, h6, h7, h8, h9⟩ := hS
  refine ⟨⟨rem_n hk S, by omega⟩, h2, h3, fun j hj => ?_, h5, h6, h7, h8, h9⟩
  rw [rem_row S k n j 10 hk hj (by decide) (by decide), rem_row S k n j 13 hk hj (by decide) (by decide)]
  exact h4 _ (by split <;> omega)
section JUDGE
variable {n mc k vg w9 : Nat} {T : CT}
theorem pl_k (hT : HV n mc T) (hk : k < n) (e : s_placeOf T (nI vg) (T 16 0) n = nI k) : ¬ s_placeOf T (nI vg) (T 16 0) n = -1 ∧ (s_placeOf T (nI vg) (T 16 0) n).toNatClampNeg = k := by
  have hn := hT.1.2
  rw [e]
  exact ⟨nI_ne_m1 (by omega), nI_clamp (by omega)⟩
theorem chg_us (X : CT) (hvg : vg < 3) (ch : Int32) : s_chg X (nI vg) ch 3 = us X 2 vg (clampT (X 2 vg + ch)) := by
  unfold s_chg
  rw [if_pos (in3 hvg), nI_clamp (by omega)]
theorem judge_hit (hT : HV n mc T) (hk : k < n) (hvg : vg < 3) (e : s_placeOf T (nI vg) (T 16 0) n = nI k) (c1 : T 12 k = nI w9) : s_judge T vg w9 n 3 mc = s_remove (us (us (us T 16 2 (T 16 2 + 1)) 2 vg (clampT (T 2 vg + 5))) 16 6 (T 16 6 + T 13 k)) k (k + 1) n := by
  obtain ⟨p1, p2⟩ := pl_k hT hk e
  rw [s_judge, if_neg p1, p2, s_judgeMid, if_pos c1, chg_us _ hvg, s_judgeEnd]
  rfl
theorem judge_miss (hT : HV n mc T) (hk : k < n) (hvg : vg < 3) (e : s_placeOf T (nI vg) (T 16 0) n = nI k) (c1 : ¬ T 12 k = nI w9) : s_judge T vg w9 n 3 mc = s_judgeEnd (us (s_payBack (s_memAdd (us T 16 3 (T 16 3 + 1)) (nI vg) (T 16 0) mc) (if w9 = 2 then T 14 k + 10 else T 14 k / 2)) 2 vg (clampT (T 2 vg + (if w9 = 2 then -20 else -10)))) k n := by
  obtain ⟨p1, p2⟩ := pl_k hT hk e
  rw [s_judge, if_neg p1, p2, s_judgeMid, if_neg c1, chg_us _ hvg]
  have e2 : (s_payBack (s_memAdd (us T 16 3 (T 16 3 + 1)) (nI vg) (T 16 0) mc) (if w9 = 2 then T 14 k + 10 else T 14 k / 2)) 2 = T 2 := by
    unfold s_memAdd
    split <;> rfl
  rw [e2]
theorem he_hit' (hT : HV n mc T) (hk : k < n) (hvg : vg < 3) (e : s_placeOf T (nI vg) (T 16 0) n = nI k) (c1 : T 12 k = nI w9) : HE (n - 1) mc (us (us (s_remove T k (k + 1) n) 16 2 (T 16 2 + 1)) 2 vg (if T 2 vg + 5 < 100 then T 2 vg + 5 else 100)) (s_judge T vg w9 n 3 mc) := by
  rw [judge_hit hT hk hvg e c1]
  obtain ⟨p, t, o, a1, a2, a3, a4, a5, a6, a7⟩ := hT.vil hvg
  have ec : (if T 2 vg + 5 < 100 then T 2 vg + 5 else 100) = clampT (T 2 vg + 5) := by rw [a6]; exact (tr_up a3).symm
  rw [ec]
  exact ⟨fun j hj => ⟨rfl, rfl, rfl, rfl⟩, fun j hj => ⟨rfl, rfl, rfl, rfl⟩, fun j _ => rfl, fun j _ => ⟨rfl, rfl, rfl, rfl, rfl⟩, rfl, rfl, rfl, rfl, rfl, rfl⟩
theorem bc_hit' (hT : HV n mc T) (hk : k < n) (hvg : vg < 3) (e : s_placeOf T (nI vg) (T 16 0) n = nI k) (c1 : T 12 k = nI w9) : bcO (s_judge T vg w9 n 3 mc) = n - 1 := by
  rw [judge_hit hT hk hvg e c1, bcO, rem_n hk]
  exact nI_clamp (by have := hT.1.2; omega)
theorem mc_hit' (hT : HV n mc T) (hk : k < n) (hvg : vg < 3) (e : s_placeOf T (nI vg) (T 16 0) n = nI k) (c1 : T 12 k = nI w9) : mcO (s_judge T vg w9 n 3 mc) = mc := by
  rw [judge_hit hT hk hvg e c1]
  exact hT.mc
theorem bc_miss' (hT : HV n mc T) (hk : k < n) (hvg : vg < 3) (e : s_placeOf T (nI vg) (T 16 0) n = nI k) (c1 : ¬ T 12 k = nI w9) : bcO (s_judge T vg w9 n 3 mc) = n - 1 := by
  rw [judge_miss hT hk hvg e c1, s_judgeEnd, bcO, rem_n hk]
  exact nI_clamp (by have := hT.1.2; omega)
theorem mem_13 (X : CT) (v d : Int32) (hmc : mc ≤ 10) : s_memAdd X v d mc 16 13 = nI (mc2 mc) := by
  rw [s_memAdd_13 _ _ _ _ hmc, mc2]
  congr 1
  split <;> omega
theorem mc_miss' (hT : HV n mc T) (hk : k < n) (hvg : vg < 3) (e : s_placeOf T (nI vg) (T 16 0) n = nI k) (c1 : ¬ T 12 k = nI w9) : mcO (s_judge T vg w9 n 3 mc) = mc2 mc := by
  rw [judge_miss hT hk hvg e c1]
  have hm := hT.2.1.2
  have h9 := (mc2_le hm).1
  show (s_memAdd (us T 16 3 (T 16 3 + 1)) (nI vg) (T 16 0) mc 16 13).toNatClampNeg = _
  rw [mem_13 _ _ _ hm]
  exact nI_clamp (by omega)
theorem mem_15 (X : CT) (v d : Int32) (hmc : mc ≤ 10) {j : Nat} (hj : j < mc2 mc) : s_memAdd X v d mc 15 j = if j = mc2 mc - 1 then s_label v d else X 15 (j + (if mc = 10 then 1 else 0)) := by
  unfold mc2 at hj ⊢
  by_cases h : mc = 10
  · subst h
    rw [if_pos rfl] at hj ⊢
    rw [if_pos rfl]
    show upd (va_cpy (X 15) (X 15) 1 0 9) 9 (s_label v d) j = _
    by_cases h9 : j = 9
    · subst h9; rfl
    · rw [if_neg h9]
      show (if j = 9 then _ else va_cpy (X 15) (X 15) 1 0 9 j) = _
      rw [if_neg h9]
      show (if 0 ≤ j ∧ j < 0 + 9 then X 15 (1 + (j - 0)) else X 15 j) = _
      rw [if_pos ⟨by omega, by omega⟩]
      congr 1
      omega
  · rw [if_neg h] at hj ⊢
    rw [if_neg h, s_memAdd, if_neg (by omega)]
    show upd (X 15) mc (s_label v d) j = _
    by_cases h9 : j = mc
    · subst h9
      rw [if_pos (by omega)]
      exact if_pos rfl
    · rw [if_neg (by omega)]
      exact if_neg h9
theorem mem_k (X : CT) (v d : Int32) (r : Nat) (hr : r ≠ 15) (hr2 : r ≠ 16) : s_memAdd X v d mc r = X r := by
  unfold s_memAdd
  split <;> (show (if r = 16 then _ else _) = _; rw [if_neg hr2]; show (if r = 15 then _ else _) = _; rw [if_neg hr]) <;> first | rfl | (show (if r = 16 then _ else _) = _; rw [if_neg hr2]; show (if r = 15 then _ else _) = _; rw [if_neg hr])
theorem he_missg (hT : HV n mc T) (hk : k < n) (hvg : vg < 3) (e : s_placeOf T (nI vg) (T 16 0) n = nI k) (c1 : ¬ T 12 k = nI w9) {r x2 : Int32} (hr : (if w9 = 2 then T 14 k + 10 else T 14 k / 2) = r) (hx : clampT (T 2 vg + (if w9 = 2 then -20 else -10)) = x2) : HE (n - 1) (mc2 mc) (us (us (s_memT (s_remove T k (k + 1) n) (10 * T 16 0 + nI vg) mc) 16 1 (T 16 1 - r)) 2 vg x2) (s_judge T vg w9 n 3 mc) := by
  rw [judge_miss hT hk hvg e c1, hr, hx]
  have hm := hT.2.1.2
  obtain ⟨M, hM⟩ : ∃ M, M = s_memAdd (us T 16 3 (T 16 3 + 1)) (nI vg) (T 16 0) mc := ⟨_, rfl⟩
  have mk : ∀ r, r ≠ 15 → r ≠ 16 → M r = T r := fun r h1 h2 => by
    rw [hM, mem_k _ _ _ _ h1 h2]
    show (if r = 16 then _ else _) = _
    rw [if_neg h2]
  have m16 : ∀ j, j ≠ 13 → M 16 j = (us T 16 3 (T 16 3 + 1)) 16 j := fun j hj => by rw [hM]; exact s_memAdd_16 _ _ _ _ _ hj
  have m15 : ∀ j, j < mc2 mc → M 15 j = if j = mc2 mc - 1 then s_label (nI vg) (T 16 0) else T 15 (j + (if mc = 10 then 1 else 0)) := fun j hj => by rw [hM]; exact mem_15 _ _ _ hm hj
  rw [← hM]
  refine ⟨fun j hj => ⟨?_, ?_, ?_, ?_⟩, fun j hj => ⟨?_, ?_, ?_, ?_⟩, fun j hj => ?_, fun j _ => ⟨?_, ?_, ?_, ?_, ?_⟩, ?_, ?_, ?_, ?_, ?_, ?_⟩
  · show T 1 j = M 1 j; rw [mk 1 (by decide) (by decide)]
  · show upd (T 2) vg x2 j = upd (M 2) vg x2 j; rw [mk 2 (by decide) (by decide)]
  · show T 8 j = M 8 j; rw [mk 8 (by decide) (by decide)]
  · show T 9 j = M 9 j; rw [mk 9 (by decide) (by decide)]
  · show T 4 j = M 4 j; rw [mk 4 (by decide) (by decide)]
  · show T 5 j = M 5 j; rw [mk 5 (by decide) (by decide)]
  · show T 6 j = M 6 j; rw [mk 6 (by decide) (by decide)]
  · show T 7 j = M 7 j; rw [mk 7 (by decide) (by decide)]
  · show (if j = mc2 mc - 1 then 10 * T 16 0 + nI vg else T 15 (j + (if mc = 10 then 1 else 0))) = M 15 j
    rw [m15 j hj]
    rfl
  · show va_cpy (T 10) (T 10) (k + 1) k (n - (k + 1)) j = va_cpy (M 10) (M 10) (k + 1) k (n - (k + 1)) j; rw [mk 10 (by decide) (by decide)]
  · show va_cpy (T 11) (T 11) (k + 1) k (n - (k + 1)) j = va_cpy (M 11) (M 11) (k + 1) k (n - (k + 1)) j; rw [mk 11 (by decide) (by decide)]
  · show va_cpy (T 12) (T 12) (k + 1) k (n - (k + 1)) j = va_cpy (M 12) (M 12) (k + 1) k (n - (k + 1)) j; rw [mk 12 (by decide) (by decide)]
  · show va_cpy (T 13) (T 13) (k + 1) k (n - (k + 1)) j = va_cpy (M 13) (M 13) (k + 1) k (n - (k + 1)) j; rw [mk 13 (by decide) (by decide)]
  · show va_cpy (T 14) (T 14) (k + 1) k (n - (k + 1)) j = va_cpy (M 14) (M 14) (k + 1) k (n - (k + 1)) j; rw [mk 14 (by decide) (by decide)]
  · show T 16 11 = M 16 11; rw [m16 11 (by decide)]; rfl
  · show T 16 0 = M 16 0; rw [m16 0 (by decide)]; rfl
  · show T 16 1 - r = M 16 1 - r; rw [m16 1 (by decide)]; rfl
  · show T 16 2 = M 16 2; rw [m16 2 (by decide)]; rfl
  · show T 16 3 + 1 = M 16 3; rw [m16 3 (by decide)]; rfl
  · show T 16 4 = M 16 4; rw [m16 4 (by decide)]; rfl
theorem he_miss1' (hT : HV n mc T) (hk : k < n) (hvg : vg < 3) (e : s_placeOf T (nI vg) (T 16 0) n = nI k) (c1 : ¬ T 12 k = nI w9) (c2 : ¬ w9 = 2) : HE (n - 1) (mc2 mc) (us (us (s_memT (s_remove T k (k + 1) n) (10 * T 16 0 + nI vg) mc) 16 1 (T 16 1 - T 14 k / 2)) 2 vg (if 0 < T 2 vg - 10 then T 2 vg - 10 else 0)) (s_judge T vg w9 n 3 mc) := by
  obtain ⟨p, t, o, a1, a2, a3, a4, a5, a6, a7⟩ := hT.vil hvg
  exact he_missg hT hk hvg e c1 (if_neg c2) (by rw [if_neg c2, a6]; exact tr_dn (c := 10) a3 (by decide))
theorem he_miss2' (hT : HV n mc T) (hk : k < n) (hvg : vg < 3) (e : s_placeOf T (nI vg) (T 16 0) n = nI k) (c1 : ¬ T 12 k = nI w9) (c2 : w9 = 2) : HE (n - 1) (mc2 mc) (us (us (s_memT (s_remove T k (k + 1) n) (10 * T 16 0 + nI vg) mc) 16 1 (T 16 1 - (T 14 k + 10))) 2 vg (if 0 < T 2 vg - 20 then T 2 vg - 20 else 0)) (s_judge T vg w9 n 3 mc) := by
  obtain ⟨p, t, o, a1, a2, a3, a4, a5, a6, a7⟩ := hT.vil hvg
  exact he_missg hT hk hvg e c1 (if_pos c2) (by rw [if_pos c2, a6]; exact tr_dn (c := 20) a3 (by decide))
/-- a judged village's contents keep the invariant -/
theorem judge_hv (hT : HV n mc T) (hvg : vg < 3) (hw : w9 < 3) : HV (bcO (s_judge T vg w9 n 3 mc)) (mcO (s_judge T vg w9 n 3 mc)) (s_judge T vg w9 n 3 mc) := by
  have hn := hT.1.2
  rcases placeOf_cases T (nI vg) (T 16 0) n with e | ⟨k, hk, e, -, -⟩
  · have h9 : s_judge T vg w9 n 3 mc = T := if_pos e
    rw [h9, hT.bc, hT.mc]
    exact hT
  · by_cases c1 : T 12 k = nI w9
    · rw [bc_hit' hT hk hvg e c1, mc_hit' hT hk hvg e c1, judge_hit hT hk hvg e c1]
      have h1 : HV n mc (us T 16 2 (T 16 2 + 1)) := hT
      have h2 := h1.trust hvg (clamp_nI (T 2 vg + 5))
      have h3 : HV n mc (us (us (us T 16 2 (T 16 2 + 1)) 2 vg (clampT (T 2 vg + 5))) 16 6 (T 16 6 + T 13 k)) := h2
      exact h3.rem hk
    · have hm := hT.2.1.2
      rw [bc_miss' hT hk hvg e c1, mc_miss' hT hk hvg e c1, judge_miss hT hk hvg e c1, s_judgeEnd]
      refine HV.rem ?_ hk
      have mk : ∀ r, r ≠ 15 → r ≠ 16 → s_memAdd (us T 16 3 (T 16 3 + 1)) (nI vg) (T 16 0) mc r = T r := fun r h1 h2 => by
        rw [mem_k _ _ _ _ h1 h2]
        show (if r = 16 then _ else _) = _
        rw [if_neg h2]
      have m16 : ∀ j, j ≠ 13 → s_memAdd (us T 16 3 (T 16 3 + 1)) (nI vg) (T 16 0) mc 16 j = (us T 16 3 (T 16 3 + 1)) 16 j := fun j hj => s_memAdd_16 _ _ _ _ _ hj
      have m13 := mem_13 (mc := mc) (us T 16 3 (T 16 3 + 1)) (nI vg) (T 16 0) hm
      obtain ⟨M, hM⟩ : ∃ M, M = s_memAdd (us T 16 3 (T 16 3 + 1)) (nI vg) (T 16 0) mc := ⟨_, rfl⟩
      rw [← hM] at mk m16 m13 ⊢
      obtain ⟨h1, h2, h3, h4, h5, h6, h7, h8, h9⟩ := hT
      have hMV : HV n (mc2 mc) M := ⟨⟨by rw [m16 12 (by decide)]; exact h1.1, h1.2⟩, ⟨m13, (mc2_le hm).1⟩, ⟨by rw [m16 9 (by decide)]; exact h3.1, by rw [m16 10 (by decide)]; exact h3.2⟩, by rw [mk 10 (by decide) (by decide), mk 13 (by decide) (by decide)]; exact h4, by rw [mk 1 (by decide) (by decide), mk 2 (by decide) (by decide), mk 8 (by decide) (by decide)]; exact h5, by rw [s_sumO, mk 8 (by decide) (by decide)]; exact h6, by rw [mk 4 (by decide) (by decide), mk 5 (by decide) (by decide), mk 6 (by decide) (by decide)]; exact h7, by rw [m16 11 (by decide)]; exact h8, by rw [m16 0 (by decide)]; exact h9⟩
      obtain ⟨r, hr⟩ : ∃ r, r = (if w9 = 2 then T 14 k + 10 else T 14 k / 2) := ⟨_, rfl⟩
      rw [← hr]
      have hP : HV n (mc2 mc) (s_payBack M r) := hMV
      have hQ := hP.trust hvg (clamp_nI (T 2 vg + (if w9 = 2 then -20 else -10)))
      exact hQ
end JUDGE
theorem vil_hv' {n mc vg : Nat} {T : CT} (hT : HV n mc T) (hv : vg < 3) : HV (bcO (s_vilB vg T)) (mcO (s_vilB vg T)) (s_vilB vg T) := by
  have h := judge_hv (draw_hv' hT) hv (s_drawW_lt T)
  rw [s_vilB, hT.bc, hT.vc, hT.mc]
  exact h
theorem sellAt_hv' {n mc f : Nat} {T : CT} (hT : HV n mc T) (hf : f < 2) : HV n mc (s_sellAt T f n 3) := by
  obtain ⟨w, pe, so, a1, a2, a3, a5, a6, a7, a8⟩ := hT.2.2.2.2.2.2.1 f hf
  have g : ∀ m i (p : CT × Int32), i + m = n → HV n mc p.1 → (∃ l9, l9 ≤ 40 ∧ p.2 = nI l9) → HV n mc (fo (s_sellB (T 4 f) f 3) i m p).1 := by
    intro m
    induction m with
    | zero => exact fun _ _ _ h _ => h
    | succ m ih =>
      intro i p hi hp hl
      obtain ⟨l9, hl9, el⟩ := hl
      refine ih (i + 1) _ (by omega) ?_ ?_
      · unfold s_sellB
        split
        · split
          · exact hp
          · next h1 _ => exact (sell_hv hp h1 (by omega) hl9 el).1
        · exact hp
      · unfold s_sellB
        split
        · split
          · exact ⟨l9, hl9, el⟩
          · next h1 _ => exact (sell_hv (pr := 0) hp h1 (by omega) hl9 el).2
        · exact ⟨l9, hl9, el⟩
  exact g n 0 (T, T 6 f) (by omega) hT ⟨so, a5, a8⟩
theorem day_unf' {n mc : Nat} {S : CT} (hS : HV n mc (us S 16 0 (S 16 0 + 1))) : s_day S = s_dayY (s_vilB 2 (s_vilB 1 (s_vilB 0 (s_fairB 1 (s_fairB 0 (us S 16 0 (S 16 0 + 1))))))) := by
  have hF : ∀ f T n mc, f < 2 → HV n mc T → HV n mc (s_fairB f T) := fun f T n mc hf hT => by
    unfold s_fairB
    split
    · rw [hT.bc, hT.vc]; exact sellAt_hv' hT hf
    · exact hT
  obtain ⟨X, hX⟩ : ∃ X, X = us S 16 0 (S 16 0 + 1) := ⟨_, rfl⟩
  rw [s_day, ← hX]
  rw [← hX] at hS
  have h1 : s_dayF X = s_fairB 1 (s_fairB 0 X) := by rw [s_dayF, hS.fc]; rfl
  have h2 : HV n mc (s_fairB 1 (s_fairB 0 X)) := hF 1 _ _ _ (by decide) (hF 0 _ _ _ (by decide) hS)
  rw [h1, s_dayV, h2.vc]
  rfl
theorem fg_ne_ll (f : Nat → Int32) : s_fg f ≠ s_ll f := by
  rw [fg_case, ll_case]
  by_cases h1 : f 1 ≤ f 0 ∧ f 2 ≤ f 0
  · rw [if_pos h1]
    by_cases h2 : f 2 ≤ f 1 ∧ f 2 ≤ f 0
    · rw [if_pos h2]; decide
    · rw [if_neg h2, if_pos h1.1]; decide
  · rw [if_neg h1]
    by_cases h3 : f 2 ≤ f 1
    · rw [if_pos h3]
      by_cases h2 : f 2 ≤ f 1 ∧ f 2 ≤ f 0
      · rw [if_pos h2]; decide
      · rw [if_neg h2]
        by_cases h4 : f 1 ≤ f 0
        · exact absurd ⟨h3, Int32.le_trans h3 h4⟩ h2
        · rw [if_neg h4]; decide
    · rw [if_neg h3, if_neg (fun h => h3 h.1)]
      by_cases h4 : f 1 ≤ f 0
      · rw [if_pos h4]; decide
      · rw [if_neg h4]; decide
theorem upd_self {f : Nat → Int32} {i : Nat} {v : Int32} (h : v = f i) : upd f i v = f := by
  funext j
  unfold upd
  by_cases hj : j = i
  · subst hj; rw [if_pos rfl, h]
  · rw [if_neg hj]
section YEAR
variable {n mc : Nat} {T : CT}
theorem od_up (o : Nat) (ho : o ≤ 20) : ∃ x, 1 ≤ x ∧ x ≤ 20 ∧ (if nI o + 1 < 20 then nI o + 1 else 20) = nI x ∧ (nI o < 20 → nI o + 1 = nI x) ∧ (¬ nI o < 20 → nI o = nI x) := by
  by_cases h : o < 19
  · refine ⟨o + 1, by omega, by omega, ?_, fun _ => nI_1 o, fun h9 => absurd (nI_lt (a := o) (b := 20) (by omega) (by decide)) h9⟩
    rw [nI_1, if_pos (show nI (o + 1) < 20 from nI_lt (a := o + 1) (b := 20) (by omega) (by decide))]
  · by_cases h2 : o = 19
    · subst h2; exact ⟨20, by decide, by decide, by decide, fun _ => by decide, fun h9 => absurd (by decide) h9⟩
    · obtain rfl : o = 20 := by omega
      exact ⟨20, by decide, by decide, by decide, fun h9 => absurd h9 (by decide), fun _ => rfl⟩
theorem od_dn (o : Nat) (ho : o ≤ 20) : ∃ x, x ≤ 20 ∧ (if 0 < nI o - 1 then nI o - 1 else 0) = nI x ∧ (¬ nI o ≤ 0 → nI o - 1 = nI x) ∧ (nI o ≤ 0 → nI o = nI x) := by
  by_cases h : o = 0
  · subst h; exact ⟨0, by decide, by decide, fun h9 => absurd (by decide) h9, fun _ => rfl⟩
  · by_cases h2 : o = 1
    · subst h2; exact ⟨0, by decide, by decide, fun _ => by decide, fun h9 => absurd h9 (by decide)⟩
    · have e : nI o - 1 = nI (o - 1) := pk_sub (a := o) (b := 1) (by omega)
      refine ⟨o - 1, by omega, ?_, fun _ => e, fun h9 => absurd h9 (fun h8 => ?_)⟩
      · rw [e, if_pos (show (0 : Int32) < nI (o - 1) from nI_lt (a := 0) (b := o - 1) (by omega) (by omega))]
      · have h7 := Int32.le_iff_toInt_le.mp h8
        rw [nI_toInt (by omega)] at h7
        have : ((0 : Int32)).toInt = 0 := rfl
        omega
theorem oup (hT : HV n mc T) : s_oddsUp T 8 = upd (T 8) (s_fg (T 9)) (if T 8 (s_fg (T 9)) + 1 < 20 then T 8 (s_fg (T 9)) + 1 else 20) ∧ (∀ r, r ≠ 8 → s_oddsUp T r = T r) ∧ (∀ k, k < 3 → ∃ o, o ≤ 20 ∧ (k = s_fg (T 9) → 1 ≤ o) ∧ s_oddsUp T 8 k = nI o) := by
  obtain ⟨p, t, o, a1, a2, a3, a4, a5, a6, a7⟩ := hT.vil (s_fg_lt (T 9))
  obtain ⟨x, x1, x2, x3, x4, x5⟩ := od_up o a4
  obtain ⟨m, hm⟩ : ∃ m, m = s_fg (T 9) := ⟨_, rfl⟩
  unfold s_oddsUp
  rw [← hm] at a7 ⊢
  have e8 : (if 20 ≤ T 8 m then T else us T 8 m (T 8 m + 1)) 8 = upd (T 8) m (nI x) := by
    by_cases h : 20 ≤ T 8 m
    · rw [if_pos h]
      refine (upd_self ?_).symm
      rw [a7] at h ⊢
      exact (x5 (Int32.not_lt.mpr h)).symm
    · rw [if_neg h]
      show upd (T 8) m (T 8 m + 1) = _
      rw [a7] at h ⊢
      rw [x4 (Int32.not_le.mp h)]
  refine ⟨?_, fun r hr => ?_, fun k hk => ?_⟩
  · rw [e8, a7, x3]
  · by_cases h : 20 ≤ T 8 m
    · rw [if_pos h]
    · rw [if_neg h]; exact if_neg hr
  · rw [e8]
    by_cases hkm : k = m
    · exact ⟨x, x2, fun _ => x1, if_pos hkm⟩
    · obtain ⟨p', t', o', b1, b2, b3, b4, b5, b6, b7⟩ := hT.vil hk
      exact ⟨o', b4, fun h => absurd h hkm, (if_neg hkm : upd (T 8) m (nI x) k = T 8 k).trans b7⟩
theorem odn {U : CT} {l m : Nat} (hl : l < 3) (hne : m ≠ l) (hU : ∀ k, k < 3 → ∃ o, o ≤ 20 ∧ (k = m → 1 ≤ o) ∧ U 8 k = nI o) : s_oddsDn U l 8 = upd (U 8) l (if 0 < U 8 l - 1 then U 8 l - 1 else 0) ∧ (∀ r, r ≠ 8 → s_oddsDn U l r = U r) ∧ (∀ k, k < 3 → ∃ o, o ≤ 20 ∧ (k = m → 1 ≤ o) ∧ s_oddsDn U l 8 k = nI o) := by
  obtain ⟨o, a4, -, a7⟩ := hU l hl
  obtain ⟨x, x2, x3, x4, x5⟩ := od_dn o a4
  unfold s_oddsDn
  have e8 : (if U 8 l ≤ 0 then U else us U 8 l (U 8 l - 1)) 8 = upd (U 8) l (nI x) := by
    by_cases h : U 8 l ≤ 0
    · rw [if_pos h]
      refine (upd_self ?_).symm
      rw [a7] at h ⊢
      exact (x5 h).symm
    · rw [if_neg h]
      show upd (U 8) l (U 8 l - 1) = _
      rw [a7] at h ⊢
      rw [x4 h]
  refine ⟨?_, fun r hr => ?_, fun k hk => ?_⟩
  · rw [e8, a7, x3]
  · by_cases h : U 8 l ≤ 0
    · rw [if_pos h]
    · rw [if_neg h]; exact if_neg hr
  · rw [e8]
    by_cases hkm : k = l
    · exact ⟨x, x2, fun h => absurd (h.symm.trans hkm) hne, if_pos hkm⟩
    · obtain ⟨o', b4, b5, b7⟩ := hU k hk
      exact ⟨o', b4, b5, (if_neg hkm : upd (U 8) l (nI x) k = U 8 k).trans b7⟩
theorem cyear (hT : HV n mc T) : ∃ D : CT, s_closeYear T = us (us (us D 9 0 0) 9 1 0) 9 2 0 ∧ D 8 = upd (upd (T 8) (s_fg (T 9)) (if T 8 (s_fg (T 9)) + 1 < 20 then T 8 (s_fg (T 9)) + 1 else 20)) (s_ll (T 9)) (if 0 < upd (T 8) (s_fg (T 9)) (if T 8 (s_fg (T 9)) + 1 < 20 then T 8 (s_fg (T 9)) + 1 else 20) (s_ll (T 9)) - 1 then upd (T 8) (s_fg (T 9)) (if T 8 (s_fg (T 9)) + 1 < 20 then T 8 (s_fg (T 9)) + 1 else 20) (s_ll (T 9)) - 1 else 0) ∧ (∀ r, r ≠ 8 → D r = T r) ∧ (∀ k, k < 3 → ∃ o, o ≤ 20 ∧ (k = s_fg (T 9) → 1 ≤ o) ∧ D 8 k = nI o) := by
  obtain ⟨u1, u2, u3⟩ := oup hT
  have e9 : s_oddsUp T 9 = T 9 := u2 9 (by decide)
  obtain ⟨d1, d2, d3⟩ := odn (U := s_oddsUp T) (l := s_ll (T 9)) (m := s_fg (T 9)) (s_ll_lt _) (fg_ne_ll _) u3
  refine ⟨s_oddsDn (s_oddsUp T) (s_ll (T 9)), by rw [s_closeYear, e9], by rw [d1, u1], fun r hr => (d2 r hr).trans (u2 r hr), d3⟩
theorem he_year' {mo le : Nat} (hT : HV n mc T) (hmo : mo = s_fg (T 9)) (hle : le = s_ll (T 9)) : HE n mc (us (us (us (us (us T 8 mo (if T 8 mo + 1 < 20 then T 8 mo + 1 else 20)) 8 le (if 0 < us T 8 mo (if T 8 mo + 1 < 20 then T 8 mo + 1 else 20) 8 le - 1 then us T 8 mo (if T 8 mo + 1 < 20 then T 8 mo + 1 else 20) 8 le - 1 else 0)) 9 0 0) 9 1 0) 9 2 0) (s_closeYear T) := by
  obtain ⟨D, d1, d2, d3, -⟩ := cyear hT
  rw [d1]
  rw [← hmo, ← hle] at d2
  refine ⟨fun j hj => ⟨?_, ?_, ?_, ?_⟩, fun j hj => ⟨?_, ?_, ?_, ?_⟩, fun j hj => ?_, fun j _ => ⟨?_, ?_, ?_, ?_, ?_⟩, ?_, ?_, ?_, ?_, ?_, ?_⟩
  · show T 1 j = D 1 j; rw [d3 1 (by decide)]
  · show T 2 j = D 2 j; rw [d3 2 (by decide)]
  · show _ = D 8 j; rw [d2]; rfl
  · show upd (upd (upd (T 9) 0 0) 1 0) 2 0 j = upd (upd (upd (D 9) 0 0) 1 0) 2 0 j; rw [d3 9 (by decide)]
  · show T 4 j = D 4 j; rw [d3 4 (by decide)]
  · show T 5 j = D 5 j; rw [d3 5 (by decide)]
  · show T 6 j = D 6 j; rw [d3 6 (by decide)]
  · show T 7 j = D 7 j; rw [d3 7 (by decide)]
  · show T 15 j = D 15 j; rw [d3 15 (by decide)]
  · show T 10 j = D 10 j; rw [d3 10 (by decide)]
  · show T 11 j = D 11 j; rw [d3 11 (by decide)]
  · show T 12 j = D 12 j; rw [d3 12 (by decide)]
  · show T 13 j = D 13 j; rw [d3 13 (by decide)]
  · show T 14 j = D 14 j; rw [d3 14 (by decide)]
  all_goals (show T 16 _ = D 16 _; rw [d3 16 (by decide)])
theorem cy_hv (hT : HV n mc T) : HV n mc (s_closeYear T) := by
  obtain ⟨D, d1, d2, d3, d4⟩ := cyear hT
  obtain ⟨h1, h2, h3, h4, h5, h6, h7, h8, h9⟩ := hT
  have e16 : D 16 = T 16 := d3 16 (by decide)
  rw [d1]
  refine ⟨by rw [← e16] at h1; exact h1, by rw [← e16] at h2; exact h2, by rw [← e16] at h3; exact h3, by rw [← d3 10 (by decide), ← d3 13 (by decide)] at h4; exact h4, fun k hk => ?_, ?_, by rw [← d3 4 (by decide), ← d3 5 (by decide), ← d3 6 (by decide)] at h7; exact h7, by rw [← e16] at h8; exact h8, by rw [← e16] at h9; exact h9⟩
  · obtain ⟨p, t, o, a1, a2, a3, a4, a5, a6, a7⟩ := h5 k hk
    obtain ⟨o', b1, b2, b3⟩ := d4 k hk
    refine ⟨p, t, o', a1, a2, a3, b1, ?_, ?_, b3⟩
    · show D 1 k = _; rw [d3 1 (by decide)]; exact a5
    · show D 2 k = _; rw [d3 2 (by decide)]; exact a6
  · obtain ⟨o0, b0, c0, f0⟩ := d4 0 (by decide)
    obtain ⟨o1, b1, c1, f1⟩ := d4 1 (by decide)
    obtain ⟨o2, b2, c2, f2⟩ := d4 2 (by decide)
    show ¬ D 8 0 + D 8 1 + D 8 2 = 0
    rw [f0, f1, f2, nI_add, nI_add]
    have hm := s_fg_lt (T 9)
    refine nI_ne0 ?_ (by omega)
    have h9 : s_fg (T 9) = 0 ∨ s_fg (T 9) = 1 ∨ s_fg (T 9) = 2 := by omega
    rcases h9 with h | h | h
    · have := c0 h.symm; omega
    · have := c1 h.symm; omega
    · have := c2 h.symm; omega
end YEAR
theorem judge_0 (S : CT) (vg w bc vc mc : Nat) : s_judge S vg w bc vc mc 16 0 = S 16 0 := by
  unfold s_judge
  split
  · rfl
  · rw [s_judgeEnd, rem_16 _ _ _ _ (by decide)]
    show (us _ 16 6 _) 16 0 = _
    exact s_judgeMid_16 S vg w _ vc mc 0 (Or.inl rfl)
theorem vil_0 (v : Nat) (T : CT) : s_vilB v T 16 0 = T 16 0 := (judge_0 _ _ _ _ _ _).trans rfl
theorem fair_0 (f : Nat) (T : CT) : s_fairB f T 16 0 = T 16 0 := by
  unfold s_fairB
  split
  · exact s_sellAt_16 _ _ _ _ 0 (by decide) (by decide) (by decide)
  · rfl
theorem fairB_hv {f n mc : Nat} {T : CT} (hf : f < 2) (hT : HV n mc T) : HV n mc (s_fairB f T) := by
  unfold s_fairB
  split
  · rw [hT.bc, hT.vc]; exact sellAt_hv' hT hf
  · exact hT
theorem day_hv' {n mc dy : Nat} {S : CT} (hS : HV n mc S) (hd : S 16 0 = nI dy) (h : dy + 1 ≤ 1000) : HV (bcO (s_day S)) (mcO (s_day S)) (s_day S) ∧ s_day S 16 0 = nI (dy + 1) := by
  have h0 := hS.d1 hd h
  rw [day_unf' h0]
  have e0 : us S 16 0 (S 16 0 + 1) 16 0 = nI (dy + 1) := by
    show S 16 0 + 1 = _
    rw [hd, nI_1]
  obtain ⟨X, hX⟩ : ∃ X, X = us S 16 0 (S 16 0 + 1) := ⟨_, rfl⟩
  rw [← hX] at h0 e0 ⊢
  have h2 := fairB_hv (f := 1) (by decide) (fairB_hv (f := 0) (by decide) h0)
  have h3 := vil_hv' (vil_hv' (vil_hv' h2 (vg := 0) (by decide)) (vg := 1) (by decide)) (vg := 2) (by decide)
  have e3 : s_vilB 2 (s_vilB 1 (s_vilB 0 (s_fairB 1 (s_fairB 0 X)))) 16 0 = nI (dy + 1) := by rw [vil_0, vil_0, vil_0, fair_0, fair_0, e0]
  obtain ⟨Y, hY⟩ : ∃ Y, Y = s_vilB 2 (s_vilB 1 (s_vilB 0 (s_fairB 1 (s_fairB 0 X)))) := ⟨_, rfl⟩
  rw [← hY] at h3 e3 ⊢
  unfold s_dayY
  split
  · have h4 := cy_hv h3
    have eb : bcO (s_closeYear Y) = bcO Y := congrArg Int32.toNatClampNeg (s_closeYear_16 Y 12)
    have em : mcO (s_closeYear Y) = mcO Y := congrArg Int32.toNatClampNeg (s_closeYear_16 Y 13)
    rw [eb, em]
    exact ⟨h4, (s_closeYear_16 Y 0).trans e3⟩
  · exact ⟨h3, e3⟩
/-! taking a page back -/
theorem tr5 {t : Nat} (ht : t ≤ 100) : clampT (nI t + -5) = nI (t - 5) ∧ (if 0 < nI t - 5 then nI t - 5 else 0) = nI (t - 5) := by
  have e : (if 0 < nI t - 5 then nI t - 5 else 0) = nI (t - 5) := by
    by_cases h : 5 < t
    · have e5 : nI t - 5 = nI (t - 5) := pk_sub (a := t) (b := 5) (by omega)
      rw [e5, if_pos (show (0 : Int32) < nI (t - 5) from nI_lt (a := 0) (b := t - 5) (by omega) (by omega))]
    · have h9 : ¬ (0 : Int32) < nI t - 5 := by
        rw [Int32.lt_iff_toInt_lt, show (5 : Int32) = nI 5 from rfl, pk_sub_toInt (by omega) (by omega), Int32.toInt_zero]
        omega
      rw [if_neg h9, show t - 5 = 0 by omega]
      rfl
  exact ⟨(tr_dn (c := 5) ht (by decide)).trans e, e⟩
/-- how many of the rows i, i + 1, .. (m of them) are of village v -/
def cntV (S : CT) (v i : Nat) : Nat → Nat
  | 0 => 0
  | m + 1 => cntV S v i m + (if S 10 (i + m) = nI v then 1 else 0)
theorem cntV_front (S : CT) (v i : Nat) : ∀ m, cntV S v i (m + 1) = (if S 10 i = nI v then 1 else 0) + cntV S v (i + 1) m
  | 0 => by show 0 + (if S 10 (i + 0) = nI v then 1 else 0) = _ + 0; rw [Nat.add_zero, Nat.add_zero, Nat.zero_add]
  | m + 1 => by
    show cntV S v i (m + 1) + (if S 10 (i + (m + 1)) = nI v then 1 else 0) = (if S 10 i = nI v then 1 else 0) + (cntV S v (i + 1) m + (if S 10 (i + 1 + m) = nI v then 1 else 0))
    rw [cntV_front S v i m, show i + 1 + m = i + (m + 1) by omega, Nat.add_assoc]
section TB
variable {n mc : Nat} {S : CT}
/-- rows and trusts of the Hand after m rows -/
theorem tb_hand {e : Nat} (he : e ≤ n) (hn : n ≤ 30) (hS : ∀ k, k < n → ∃ v, v < 3 ∧ S 10 k = nI v) (hT : ∀ v, v < 3 → ∃ t, t ≤ 100 ∧ S 2 v = nI t) : ∀ m, m ≤ e → (∀ r, 10 ≤ r → r ≤ 14 → ∀ j, j < n - m → h_tb S n e m r j = S r (if j < e - m then j else j + m)) ∧ (∀ v t, v < 3 → S 2 v = nI t → t ≤ 100 → h_tb S n e m 2 v = nI (t - 5 * cntV S v (e - m) m)) ∧ (∀ r, r ≠ 2 → r ≠ 16 → ¬ (10 ≤ r ∧ r ≤ 14) → h_tb S n e m r = S r) ∧ (∀ j, j ≠ 4 → j ≠ 12 → h_tb S n e m 16 j = S 16 j) ∧ h_tb S n e m 16 4 = S 16 4 + nI m
  | 0, _ => ⟨fun r h1 h2 j hj => by show S r j = _; split <;> rfl, fun v t hv h1 h2 => h1, fun _ _ _ _ => rfl, fun _ _ _ => rfl, (Int32.add_zero _).symm⟩
  | m + 1, hm => by
    obtain ⟨i1, i2, i3, i4, i5⟩ := tb_hand he hn hS hT m (by omega)
    obtain ⟨T, hTd⟩ : ∃ T, T = h_tb S n e m := ⟨_, rfl⟩
    rw [← hTd] at i1 i2 i3 i4 i5
    have hst : h_tb S n e (m + 1) = s_remove (h_tb1 (e - m - 1) T) (e - m - 1) (e - m - 1 + 1) (n - m) := by rw [hTd]; rfl
    obtain ⟨k, hk⟩ : ∃ k, k = e - m - 1 := ⟨_, rfl⟩
    rw [← hk] at hst
    have ek : T 10 k = S 10 k := by rw [i1 10 (by decide) (by decide) k (by omega), if_pos (by omega)]
    obtain ⟨v, hv, ev⟩ := hS k (by omega)
    have evT := ek.trans ev
    obtain ⟨t, ht, et⟩ := hT v hv
    have e2 : T 2 v = nI (t - 5 * cntV S v (e - m) m) := i2 v t hv et ht
    have hd1 : h_tb1 k T = us (us T 2 v (nI (t - 5 * cntV S v (e - m) m - 5))) 16 4 (T 16 4 + 1) := by rw [h_tb1, evT, nI_clamp (by omega), e2, (tr5 (by omega)).2]
    rw [hst, hd1]
    refine ⟨fun r h1 h2 j hj => ?_, fun w tw hw h1 h2 => ?_, fun r h1 h2 h3 => ?_, fun j h1 h2 => ?_, ?_⟩
    · rw [rem_row _ k (n - m) j r (by omega) (by omega) h1 h2]
      have e0 : us (us T 2 v (nI (t - 5 * cntV S v (e - m) m - 5))) 16 4 (T 16 4 + 1) r = T r := by
        show (if r = 16 then _ else if r = 2 then _ else T r) = T r
        rw [if_neg (by omega), if_neg (by omega)]
      rw [e0]
      by_cases hjk : j < k
      · rw [if_pos hjk, if_pos (by omega), i1 r h1 h2 j (by omega), if_pos (by omega)]
      · rw [if_neg hjk, if_neg (by omega), i1 r h1 h2 (j + 1) (by omega), if_neg (by omega), show j + 1 + m = j + (m + 1) by omega]
    · show upd (T 2) v (nI (t - 5 * cntV S v (e - m) m - 5)) w = _
      have ef : cntV S w (e - (m + 1)) (m + 1) = (if S 10 k = nI w then 1 else 0) + cntV S w (e - m) m := by
        rw [cntV_front, show e - (m + 1) = k by omega, show k + 1 = e - m by omega]
      rw [ef]
      by_cases hwv : w = v
      · subst hwv
        rw [if_pos ev]
        have htw : tw = t := nI_ij (by omega) (by omega) (h1.symm.trans et)
        subst htw
        show (if w = w then _ else _) = _
        rw [if_pos rfl]
        congr 1
        omega
      · have hne : ¬ S 10 k = nI w := fun h => hwv (nI_ij (by omega) (by omega) (h.symm.trans ev))
        rw [if_neg hne]
        show (if w = v then _ else T 2 w) = _
        rw [if_neg hwv, i2 w tw hw h1 h2, Nat.zero_add]
    · show (if r = 16 then _ else if r = 14 then _ else if r = 13 then _ else if r = 12 then _ else if r = 11 then _ else if r = 10 then _ else (if r = 16 then _ else if r = 2 then _ else T r)) = _
      rw [if_neg h2, if_neg (by omega), if_neg (by omega), if_neg (by omega), if_neg (by omega), if_neg (by omega), if_neg h2, if_neg h1]
      exact i3 r h1 h2 h3
    · rw [rem_16 _ _ _ _ h2]
      show upd (T 16) 4 (T 16 4 + 1) j = _
      rw [show upd (T 16) 4 (T 16 4 + 1) j = T 16 j from if_neg h1]
      exact i4 j h1 h2
    · rw [rem_16 _ _ _ _ (by decide)]
      show T 16 4 + 1 = _
      rw [i5, Int32.add_assoc, nI_1]
theorem fo_back {σ : Type} (b : Nat → σ → σ) : ∀ m i (s : σ), fo b i (m + 1) s = b (i + m) (fo b i m s)
  | 0, _, _ => rfl
  | m + 1, i, s => by
    show fo b (i + 1) (m + 1) (b i s) = b (i + (m + 1)) (fo b (i + 1) m (b i s))
    rw [fo_back b m (i + 1) (b i s), show i + 1 + m = i + (m + 1) by omega]
/-- rows and trusts of the office's loop -/
theorem tb_loop (hS : ∀ k, k < n → ∃ v, v < 3 ∧ S 10 k = nI v) (hT : ∀ v, v < 3 → ∃ t, t ≤ 100 ∧ S 2 v = nI t) (p : Nat) : ∀ m, p + m ≤ n → (∀ v t, v < 3 → S 2 v = nI t → t ≤ 100 → fo (s_tbBody 3) p m S 2 v = nI (t - 5 * cntV S v p m)) ∧ (∀ r, r ≠ 2 → r ≠ 16 → fo (s_tbBody 3) p m S r = S r) ∧ (∀ j, j ≠ 4 → j ≠ 6 → fo (s_tbBody 3) p m S 16 j = S 16 j) ∧ fo (s_tbBody 3) p m S 16 4 = S 16 4 + nI m ∧ fo (s_tbBody 3) p m S 16 6 = fo (fun i s => s + S 13 i) p m (S 16 6)
  | 0, _ => ⟨fun v t hv h1 h2 => h1, fun _ _ _ => rfl, fun _ _ _ => rfl, (Int32.add_zero _).symm, rfl⟩
  | m + 1, hm => by
    obtain ⟨i2, i3, i4, i5, i6⟩ := tb_loop hS hT p m (by omega)
    rw [fo_back, fo_back]
    obtain ⟨T, hTd⟩ : ∃ T, T = fo (s_tbBody 3) p m S := ⟨_, rfl⟩
    rw [← hTd] at i2 i3 i4 i5 i6 ⊢
    obtain ⟨v, hv, ev⟩ := hS (p + m) (by omega)
    have evT : T 10 (p + m) = nI v := by rw [i3 10 (by decide) (by decide)]; exact ev
    obtain ⟨t, ht, et⟩ := hT v hv
    have e2 : T 2 v = nI (t - 5 * cntV S v p m) := i2 v t hv et ht
    have hb : s_tbBody 3 (p + m) T = us (us (us T 2 v (nI (t - 5 * cntV S v p m - 5))) 16 6 (T 16 6 + T 13 (p + m))) 16 4 (T 16 4 + 1) := by
      rw [s_tbBody, evT, chg_us _ hv, e2, (tr5 (by omega)).1]
      rfl
    rw [hb]
    refine ⟨fun w tw hw h1 h2 => ?_, fun r h1 h2 => ?_, fun j h1 h2 => ?_, ?_, ?_⟩
    · show upd (T 2) v (nI (t - 5 * cntV S v p m - 5)) w = _
      show _ = nI (tw - 5 * (cntV S w p m + (if S 10 (p + m) = nI w then 1 else 0)))
      by_cases hwv : w = v
      · subst hwv
        rw [if_pos ev]
        have htw : tw = t := nI_ij (by omega) (by omega) (h1.symm.trans et)
        subst htw
        show (if w = w then _ else _) = _
        rw [if_pos rfl]
        exact congrArg nI (by omega)
      · have hne : ¬ S 10 (p + m) = nI w := fun h => hwv (nI_ij (by omega) (by omega) (h.symm.trans ev))
        rw [if_neg hne]
        show (if w = v then _ else T 2 w) = _
        rw [if_neg hwv, i2 w tw hw h1 h2, Nat.add_zero]
    · show (if r = 16 then _ else if r = 16 then _ else if r = 2 then _ else T r) = _
      rw [if_neg h2, if_neg h2, if_neg h1]
      exact i3 r h1 h2
    · show (if j = 4 then _ else if j = 6 then _ else T 16 j) = _
      rw [if_neg h1, if_neg h2]
      exact i4 j h1 h2
    · show T 16 4 + 1 = _
      rw [i5, Int32.add_assoc, nI_1]
    · show T 16 6 + T 13 (p + m) = fo (fun i s => s + S 13 i) p m (S 16 6) + S 13 (p + m)
      rw [i6, i3 13 (by decide) (by decide)]
theorem HV.vr (hS : HV n mc S) : ∀ k, k < n → ∃ v, v < 3 ∧ S 10 k = nI v := fun k hk => by
  obtain ⟨v, s9, h1, h2, h3, h4⟩ := hS.2.2.2.1 k hk
  exact ⟨v, h1, h3⟩
theorem HV.tr (hS : HV n mc S) : ∀ v, v < 3 → ∃ t, t ≤ 100 ∧ S 2 v = nI t := fun v hv => by
  obtain ⟨p, t, o, a1, a2, a3, a4, a5, a6, a7⟩ := hS.vil hv
  exact ⟨t, a3, a6⟩
theorem tb_cnt' {pg : Nat} (hS : HV n mc S) (hpg : 4 * pg < n) : bcO (s_takeBack S pg n 3) = n - (min n (4 * pg + 4) - 4 * pg) ∧ mcO (s_takeBack S pg n 3) = mc := by
  have hn := hS.1.2
  constructor
  · show (nI (4 * pg + (n - min n (4 * pg + 4)))).toNatClampNeg = _
    rw [nI_clamp (by omega)]
    omega
  · show (s_tbLoop S pg n 3 16 13).toNatClampNeg = mc
    rw [s_tbLoop_16 _ _ _ _ 13 (by decide) (by decide)]
    exact hS.mc
theorem he_tb' {pg : Nat} (hS : HV n mc S) (hpg : 4 * pg < n) : HE (n - (min n (4 * pg + 4) - 4 * pg)) mc (h_tb (us S 16 1 (S 16 1 - s_paidForPage S pg n)) n (min n (4 * pg + 4)) (min n (4 * pg + 4) - 4 * pg)) (s_takeBack S pg n 3) := by
  have hn := hS.1.2
  obtain ⟨e, he⟩ : ∃ e, e = min n (4 * pg + 4) := ⟨_, rfl⟩
  obtain ⟨S0, hS0⟩ : ∃ S0, S0 = us S 16 1 (S 16 1 - s_paidForPage S pg n) := ⟨_, rfl⟩
  obtain ⟨L, hL⟩ : ∃ L, L = s_tbLoop S pg n 3 := ⟨_, rfl⟩
  have hb : s_takeBack S pg n 3 = s_payBack (s_remove L (4 * pg) e n) (s_paidForPage S pg n) := by rw [hL, he]; rfl
  rw [hb, ← hS0, ← he]
  have k0 : ∀ r, r ≠ 16 → S0 r = S r := fun r h => by rw [hS0]; exact if_neg h
  obtain ⟨i1, i2, i3, i4, i5⟩ := tb_hand (S := S0) (n := n) (e := e) (by omega) hn (by rw [k0 10 (by decide)]; exact hS.vr) (by rw [k0 2 (by decide)]; exact hS.tr) (e - 4 * pg) (by omega)
  obtain ⟨l2, l3, l4, l5, -⟩ := tb_loop (S := S) (n := n) hS.vr hS.tr (4 * pg) (e - 4 * pg) (by omega)
  have hLd : fo (s_tbBody 3) (4 * pg) (e - 4 * pg) S = L := by rw [hL, he]; rfl
  rw [hLd] at l2 l3 l4 l5
  have ee : e - (e - 4 * pg) = 4 * pg := by omega
  rw [ee] at i1 i2
  obtain ⟨T, hT⟩ : ∃ T, T = h_tb S0 n e (e - 4 * pg) := ⟨_, rfl⟩
  rw [← hT] at i1 i2 i3 i4 i5 ⊢
  have cn : ∀ v i m, cntV S0 v i m = cntV S v i m := fun v i m => by
    induction m with
    | zero => rfl
    | succ m ih => show cntV S0 v i m + _ = cntV S v i m + _; rw [ih, k0 10 (by decide)]
  have rows : ∀ r, 10 ≤ r → r ≤ 14 → ∀ j, j < n - (e - 4 * pg) → T r j = va_cpy (L r) (L r) e (4 * pg) (n - e) j := fun r h1 h2 j hj => by
    rw [i1 r h1 h2 j hj, k0 r (by omega), l3 r (by omega) (by omega)]
    by_cases hjp : j < 4 * pg
    · rw [if_pos hjp, pk_cpy_out (Or.inl hjp)]
    · rw [if_neg hjp, pk_cpy_in (by omega) (by omega)]
      congr 1
      omega
  have oth : ∀ r, r ≠ 2 → r ≠ 16 → ¬ (10 ≤ r ∧ r ≤ 14) → T r = L r := fun r h1 h2 h3 => by rw [i3 r h1 h2 h3, k0 r h2, l3 r h1 h2]
  have o16 : ∀ j, j ≠ 4 → j ≠ 12 → j ≠ 1 → j ≠ 6 → T 16 j = L 16 j := fun j h1 h2 h3 h4 => by
    rw [i4 j h1 h2, l4 j h1 h4, hS0]
    exact if_neg h3
  refine ⟨fun j hj => ⟨?_, ?_, ?_, ?_⟩, fun j hj => ⟨?_, ?_, ?_, ?_⟩, fun j hj => ?_, fun j hj => ⟨?_, ?_, ?_, ?_, ?_⟩, ?_, ?_, ?_, ?_, ?_, ?_⟩
  · show T 1 j = L 1 j; rw [oth 1 (by decide) (by decide) (by decide)]
  · show T 2 j = L 2 j
    obtain ⟨t, ht, et⟩ := hS.tr j hj
    rw [i2 j t hj (by rw [k0 2 (by decide)]; exact et) ht, l2 j t hj et ht, cn]
  · show T 8 j = L 8 j; rw [oth 8 (by decide) (by decide) (by decide)]
  · show T 9 j = L 9 j; rw [oth 9 (by decide) (by decide) (by decide)]
  · show T 4 j = L 4 j; rw [oth 4 (by decide) (by decide) (by decide)]
  · show T 5 j = L 5 j; rw [oth 5 (by decide) (by decide) (by decide)]
  · show T 6 j = L 6 j; rw [oth 6 (by decide) (by decide) (by decide)]
  · show T 7 j = L 7 j; rw [oth 7 (by decide) (by decide) (by decide)]
  · show T 15 j = L 15 j; rw [oth 15 (by decide) (by decide) (by decide)]
  · exact rows 10 (by decide) (by decide) j hj
  · exact rows 11 (by decide) (by decide) j hj
  · exact rows 12 (by decide) (by decide) j hj
  · exact rows 13 (by decide) (by decide) j hj
  · exact rows 14 (by decide) (by decide) j hj
  · show T 16 11 = L 16 11; exact o16 11 (by decide) (by decide) (by decide) (by decide)
  · show T 16 0 = L 16 0; exact o16 0 (by decide) (by decide) (by decide) (by decide)
  · show T 16 1 = L 16 1 - s_paidForPage S pg n
    rw [i4 1 (by decide) (by decide), l4 1 (by decide) (by decide), hS0]
    rfl
  · show T 16 2 = L 16 2; exact o16 2 (by decide) (by decide) (by decide) (by decide)
  · show T 16 3 = L 16 3; exact o16 3 (by decide) (by decide) (by decide) (by decide)
  · show T 16 4 = L 16 4
    rw [i5, l5, hS0]
    rfl
end TB
/-! the input's bytes -/
theorem shl_or {A c : Nat} (hA : A < 2 ^ 23) (hc : c < 256) : (nI A <<< ((8 : Int32) &&& 31)) ||| nI c = nI (A * 256 + c) := by
  have e : ∀ n, (nI n).toBitVec.toNat = n % 2 ^ 32 := fun n => rfl
  apply Int32.toBitVec_inj.mp
  apply BitVec.eq_of_toNat_eq
  rw [e]
  show ((nI A).toBitVec <<< (8 : Nat) ||| (nI c).toBitVec).toNat = _
  rw [BitVec.toNat_or, BitVec.toNat_shiftLeft, e, e, Nat.mod_eq_of_lt (a := A) (by omega), Nat.mod_eq_of_lt (a := c) (by omega), Nat.shiftLeft_eq, Nat.mod_eq_of_lt (by omega), Nat.mod_eq_of_lt (a := A * 256 + c) (by omega)]
  have h := Nat.shiftLeft_add_eq_or_of_lt (b := c) (i := 8) (by omega) A
  rw [Nat.shiftLeft_eq] at h
  omega
theorem iush_nI {a : Nat} (ha : a < 2 ^ 31) : iush (nI a) 24 = nI (a / 2 ^ 24) ∧ iush (nI a) 16 = nI (a / 2 ^ 16) ∧ iush (nI a) 8 = nI (a / 2 ^ 8) ∧ iush (nI a) 0 = nI a := by
  have e : ∀ n, (nI n).toBitVec.toNat = n % 2 ^ 32 := fun n => rfl
  have g : ∀ (s : Int32) (k : Nat), (s.toUInt32 &&& Int32.toUInt32 31).toBitVec.toNat % 32 = k → iush (nI a) s = nI (a / 2 ^ k) := fun s k hk => by
    apply Int32.toBitVec_inj.mp
    apply BitVec.eq_of_toNat_eq
    rw [e]
    show ((nI a).toBitVec >>> ((s.toUInt32 &&& Int32.toUInt32 31).toBitVec.toNat % 32)).toNat = _
    rw [hk, BitVec.toNat_ushiftRight, e, Nat.shiftRight_eq_div_pow, Nat.mod_eq_of_lt (a := a) (by omega), Nat.mod_eq_of_lt]
    exact Nat.lt_of_le_of_lt (Nat.div_le_self _ _) (by omega)
  refine ⟨g 24 24 rfl, g 16 16 rfl, g 8 8 rfl, (g 0 0 rfl).trans ?_⟩
  rw [Nat.pow_zero, Nat.div_one]
theorem i8_mod (m : Nat) : (nI m).toInt8 = (nI (m % 256)).toInt8 := by
  have e : ∀ n, (nI n).toBitVec.toNat = n % 2 ^ 32 := fun n => rfl
  apply Int8.toBitVec_inj.mp
  rw [Int32.toBitVec_toInt8, Int32.toBitVec_toInt8, BitVec.signExtend_eq_setWidth_of_le _ (by decide), BitVec.signExtend_eq_setWidth_of_le _ (by decide)]
  apply BitVec.eq_of_toNat_eq
  rw [BitVec.toNat_setWidth, BitVec.toNat_setWidth, e, e]
  omega
theorem and255_s : ∀ c, c < 128 → nI c &&& 255 = nI c := fun c hc => (by decide +kernel : ∀ i : Fin 128, nI i.1 &&& 255 = nI i.1) ⟨c, hc⟩
theorem wb_c {m c : Nat} (hm : m % 256 = c) (hc : c < 128) : w_b (nI m) &&& 255 = nI c := by
  unfold w_b
  rw [i8_mod, hm, i8_nI hc, nar_nI hc]
  exact and255_s c hc
def pk4 (a b c d : Nat) : Nat := ((a * 256 + b) * 256 + c) * 256 + d
theorem pk4_eq {a b c d : Nat} (ha : a < 128) (hb : b < 128) (hc : c < 128) (hd : d < 128) : ((((((((0 : Int32) <<< ((8 : Int32) &&& 31)) ||| nI a) <<< ((8 : Int32) &&& 31)) ||| nI b) <<< ((8 : Int32) &&& 31)) ||| nI c) <<< ((8 : Int32) &&& 31)) ||| nI d = nI (pk4 a b c d) := by
  have e0 : ((0 : Int32) <<< ((8 : Int32) &&& 31)) ||| nI a = nI a := by
    have h := shl_or (A := 0) (c := a) (by omega) (by omega)
    rw [Nat.zero_mul, Nat.zero_add] at h
    exact h
  rw [e0, shl_or (by omega) (by omega), shl_or (by omega) (by omega), shl_or (by omega) (by omega)]
  rfl
theorem four_keep {w : Int32} {q : RT × Nat} {j : Nat} (h : j < q.2) : (b_four w q).1 j = q.1 j := by
  show upd (upd (upd (upd q.1 q.2 _) (q.2 + 1) _) (q.2 + 1 + 1) _) (q.2 + 1 + 1 + 1) _ j = _
  unfold upd
  rw [if_neg (by omega), if_neg (by omega), if_neg (by omega), if_neg (by omega)]
theorem four_get {a b c d : Nat} {q : RT × Nat} (ha : a < 128) (hb : b < 128) (hc : c < 128) (hd : d < 128) : (b_four (nI (pk4 a b c d)) q).1 q.2 &&& 255 = nI a ∧ (b_four (nI (pk4 a b c d)) q).1 (q.2 + 1) &&& 255 = nI b ∧ (b_four (nI (pk4 a b c d)) q).1 (q.2 + 2) &&& 255 = nI c ∧ (b_four (nI (pk4 a b c d)) q).1 (q.2 + 3) &&& 255 = nI d := by
  have hP : pk4 a b c d < 2 ^ 31 := by unfold pk4; omega
  obtain ⟨s24, s16, s8, s0⟩ := iush_nI hP
  have e : (b_four (nI (pk4 a b c d)) q).1 = upd (upd (upd (upd q.1 q.2 (w_b (nI (pk4 a b c d / 2 ^ 24)))) (q.2 + 1) (w_b (nI (pk4 a b c d / 2 ^ 16)))) (q.2 + 1 + 1) (w_b (nI (pk4 a b c d / 2 ^ 8)))) (q.2 + 1 + 1 + 1) (w_b (nI (pk4 a b c d))) := by
    rw [← s24, ← s16, ← s8]
    show upd (upd (upd (upd q.1 q.2 _) (q.2 + 1) _) (q.2 + 1 + 1) _) (q.2 + 1 + 1 + 1) (w_b (iush (nI (pk4 a b c d)) 0)) = _
    rw [s0]
  rw [e]
  unfold upd
  refine ⟨?_, ?_, ?_, ?_⟩
  · rw [if_neg (by omega), if_neg (by omega), if_neg (by omega), if_pos rfl]; exact wb_c (by unfold pk4; omega) ha
  · rw [if_neg (by omega), if_neg (by omega), if_pos rfl]; exact wb_c (by unfold pk4; omega) hb
  · rw [if_neg (by omega), if_pos rfl]; exact wb_c (by unfold pk4; omega) hc
  · rw [if_pos rfl]; exact wb_c (by unfold pk4; omega) hd
theorem app_get {x : Nat → Nat} (hx : ∀ k, k < 20 → x k < 128) (q : RT × Nat) : (∀ j, j < q.2 → (b_app (nI (pk4 (x 0) (x 1) (x 2) (x 3))) (nI (pk4 (x 4) (x 5) (x 6) (x 7))) (nI (pk4 (x 8) (x 9) (x 10) (x 11))) (nI (pk4 (x 12) (x 13) (x 14) (x 15))) (nI (pk4 (x 16) (x 17) (x 18) (x 19))) q).1 j = q.1 j) ∧ ∀ k, k < 20 → (b_app (nI (pk4 (x 0) (x 1) (x 2) (x 3))) (nI (pk4 (x 4) (x 5) (x 6) (x 7))) (nI (pk4 (x 8) (x 9) (x 10) (x 11))) (nI (pk4 (x 12) (x 13) (x 14) (x 15))) (nI (pk4 (x 16) (x 17) (x 18) (x 19))) q).1 (q.2 + k) &&& 255 = nI (x k) := by
  obtain ⟨q1, h1⟩ : ∃ q1, q1 = b_four (nI (pk4 (x 0) (x 1) (x 2) (x 3))) q := ⟨_, rfl⟩
  obtain ⟨q2, h2⟩ : ∃ q2, q2 = b_four (nI (pk4 (x 4) (x 5) (x 6) (x 7))) q1 := ⟨_, rfl⟩
  obtain ⟨q3, h3⟩ : ∃ q3, q3 = b_four (nI (pk4 (x 8) (x 9) (x 10) (x 11))) q2 := ⟨_, rfl⟩
  obtain ⟨q4, h4⟩ : ∃ q4, q4 = b_four (nI (pk4 (x 12) (x 13) (x 14) (x 15))) q3 := ⟨_, rfl⟩
  obtain ⟨q5, h5⟩ : ∃ q5, q5 = b_four (nI (pk4 (x 16) (x 17) (x 18) (x 19))) q4 := ⟨_, rfl⟩
  have e1 : q1.2 = q.2 + 4 := by rw [h1]; rfl
  have e2 : q2.2 = q.2 + 8 := by rw [h2]; show q1.2 + 4 = _; omega
  have e3 : q3.2 = q.2 + 12 := by rw [h3]; show q2.2 + 4 = _; omega
  have e4 : q4.2 = q.2 + 16 := by rw [h4]; show q3.2 + 4 = _; omega
  have k1 : ∀ j, j < q.2 → q1.1 j = q.1 j := fun j hj => by rw [h1]; exact four_keep hj
  have k2 : ∀ j, j < q.2 + 4 → q2.1 j = q1.1 j := fun j hj => by rw [h2]; exact four_keep (by omega)
  have k3 : ∀ j, j < q.2 + 8 → q3.1 j = q2.1 j := fun j hj => by rw [h3]; exact four_keep (by omega)
  have k4 : ∀ j, j < q.2 + 12 → q4.1 j = q3.1 j := fun j hj => by rw [h4]; exact four_keep (by omega)
  have k5 : ∀ j, j < q.2 + 16 → q5.1 j = q4.1 j := fun j hj => by rw [h5]; exact four_keep (by omega)
  have g1 := four_get (q := q) (hx 0 (by decide)) (hx 1 (by decide)) (hx 2 (by decide)) (hx 3 (by decide))
  have g2 := four_get (q := q1) (hx 4 (by decide)) (hx 5 (by decide)) (hx 6 (by decide)) (hx 7 (by decide))
  have g3 := four_get (q := q2) (hx 8 (by decide)) (hx 9 (by decide)) (hx 10 (by decide)) (hx 11 (by decide))
  have g4 := four_get (q := q3) (hx 12 (by decide)) (hx 13 (by decide)) (hx 14 (by decide)) (hx 15 (by decide))
  have g5 := four_get (q := q4) (hx 16 (by decide)) (hx 17 (by decide)) (hx 18 (by decide)) (hx 19 (by decide))
  rw [← h1] at g1
  rw [← h2, e1] at g2
  rw [← h3, e2] at g3
  rw [← h4, e3] at g4
  rw [← h5, e4] at g5
  have eb : b_app (nI (pk4 (x 0) (x 1) (x 2) (x 3))) (nI (pk4 (x 4) (x 5) (x 6) (x 7))) (nI (pk4 (x 8) (x 9) (x 10) (x 11))) (nI (pk4 (x 12) (x 13) (x 14) (x 15))) (nI (pk4 (x 16) (x 17) (x 18) (x 19))) q = q5 := by rw [h5, h4, h3, h2, h1]; rfl
  rw [eb]
  refine ⟨fun j hj => by rw [k5 j (by omega), k4 j (by omega), k3 j (by omega), k2 j (by omega), k1 j hj], fun k hk => ?_⟩
  have hk' : k = 0 ∨ k = 1 ∨ k = 2 ∨ k = 3 ∨ k = 4 ∨ k = 5 ∨ k = 6 ∨ k = 7 ∨ k = 8 ∨ k = 9 ∨ k = 10 ∨ k = 11 ∨ k = 12 ∨ k = 13 ∨ k = 14 ∨ k = 15 ∨ k = 16 ∨ k = 17 ∨ k = 18 ∨ k = 19 := by omega
  rcases hk' with rfl | rfl | rfl | rfl | rfl | rfl | rfl | rfl | rfl | rfl | rfl | rfl | rfl | rfl | rfl | rfl | rfl | rfl | rfl | rfl
  · rw [k5 _ (by omega), k4 _ (by omega), k3 _ (by omega), k2 _ (by omega)]; exact g1.1
  · rw [k5 _ (by omega), k4 _ (by omega), k3 _ (by omega), k2 _ (by omega)]; exact g1.2.1
  · rw [k5 _ (by omega), k4 _ (by omega), k3 _ (by omega), k2 _ (by omega)]; exact g1.2.2.1
  · rw [k5 _ (by omega), k4 _ (by omega), k3 _ (by omega), k2 _ (by omega)]; exact g1.2.2.2
  · rw [k5 _ (by omega), k4 _ (by omega), k3 _ (by omega)]; exact g2.1
  · rw [k5 _ (by omega), k4 _ (by omega), k3 _ (by omega)]; exact g2.2.1
  · rw [k5 _ (by omega), k4 _ (by omega), k3 _ (by omega)]; exact g2.2.2.1
  · rw [k5 _ (by omega), k4 _ (by omega), k3 _ (by omega)]; exact g2.2.2.2
  · rw [k5 _ (by omega), k4 _ (by omega)]; exact g3.1
  · rw [k5 _ (by omega), k4 _ (by omega)]; exact g3.2.1
  · rw [k5 _ (by omega), k4 _ (by omega)]; exact g3.2.2.1
  · rw [k5 _ (by omega), k4 _ (by omega)]; exact g3.2.2.2
  · rw [k5 _ (by omega)]; exact g4.1
  · rw [k5 _ (by omega)]; exact g4.2.1
  · rw [k5 _ (by omega)]; exact g4.2.2.1
  · rw [k5 _ (by omega)]; exact g4.2.2.2
  · exact g5.1
  · exact g5.2.1
  · exact g5.2.2.1
  · exact g5.2.2.2
theorem fv_eq {c : Nat → Int32} {x : Nat → Nat} (hc : ∀ k, k < 20 → c k = nI (x k)) (hx : ∀ k, k < 20 → x k < 128) : fvA c 20 0 = nI (pk4 (x 0) (x 1) (x 2) (x 3)) ∧ fvA c 20 1 = nI (pk4 (x 4) (x 5) (x 6) (x 7)) ∧ fvA c 20 2 = nI (pk4 (x 8) (x 9) (x 10) (x 11)) ∧ fvA c 20 3 = nI (pk4 (x 12) (x 13) (x 14) (x 15)) ∧ fvA c 20 4 = nI (pk4 (x 16) (x 17) (x 18) (x 19)) := by
  have g : ∀ i, i + 3 < 20 → ((((((((0 : Int32) <<< ((8 : Int32) &&& 31)) ||| c i) <<< ((8 : Int32) &&& 31)) ||| c (i + 1)) <<< ((8 : Int32) &&& 31)) ||| c (i + 2)) <<< ((8 : Int32) &&& 31)) ||| c (i + 3) = nI (pk4 (x i) (x (i + 1)) (x (i + 2)) (x (i + 3))) := fun i hi => by
    rw [hc i (by omega), hc (i + 1) (by omega), hc (i + 2) (by omega), hc (i + 3) (by omega)]
    exact pk4_eq (hx i (by omega)) (hx (i + 1) (by omega)) (hx (i + 2) (by omega)) (hx (i + 3) (by omega))
  exact ⟨g 0 (by decide), g 4 (by decide), g 8 (by decide), g 12 (by decide), g 16 (by decide)⟩
theorem qsL_get' {a : Nat → Int32} {n : Nat} {q : RT × Nat} (hq : q.2 = 0) {tx : Nat → Nat} (ha : ∀ j, j < n → a j = nI (tx j)) (hc : ∀ j, j < n → tx j < 128) : ∀ it j, j < 20 * it → j < n → (qsL a n q it).1 j &&& 255 = nI (tx j)
  | 0, j, h, _ => absurd h (by omega)
  | it + 1, j, h, hj => by
    have ih := qsL_get' hq ha hc it
    have e2 := qsL_2 a n q it
    obtain ⟨x, hx⟩ : ∃ x : Nat → Nat, x = fun k => if 20 * it + k < n then tx (20 * it + k) else 32 := ⟨_, rfl⟩
    have hx1 : ∀ k, k < 20 → cfL a n it k = nI (x k) := fun k _ => by
      rw [hx, cfL]
      show _ = nI (if 20 * it + k < n then tx (20 * it + k) else 32)
      split
      · next h9 => exact ha _ h9
      · rfl
    have hx2 : ∀ k, k < 20 → x k < 128 := fun k _ => by
      rw [hx]
      show (if 20 * it + k < n then tx (20 * it + k) else 32) < 128
      split
      · next h9 => exact hc _ h9
      · decide
    obtain ⟨f0, f1, f2, f3, f4⟩ := fv_eq hx1 hx2
    obtain ⟨g1, g2⟩ := app_get hx2 (qsL a n q it)
    show (b_app (fvA (cfL a n it) 20 0) (fvA (cfL a n it) 20 1) (fvA (cfL a n it) 20 2) (fvA (cfL a n it) 20 3) (fvA (cfL a n it) 20 4) (qsL a n q it)).1 j &&& 255 = _
    rw [f0, f1, f2, f3, f4]
    by_cases h9 : j < 20 * it
    · rw [g1 j (by omega)]
      exact ih j h9 hj
    · obtain ⟨k, rfl⟩ : ∃ k, j = 20 * it + k := ⟨j - 20 * it, by omega⟩
      have h8 := g2 k (by omega)
      rw [e2, hq, Nat.zero_add] at h8
      rw [h8, hx]
      show nI (if 20 * it + k < n then tx (20 * it + k) else 32) = _
      rw [if_pos hj]
/-! the text's letters -/
theorem l128_app {A B : List Nat} (h : ∀ c ∈ A, c < 128) (h2 : ∀ c ∈ B, c < 128) : ∀ c ∈ A ++ B, c < 128 := fun c hc => (List.mem_append.mp hc).elim (h c) (h2 c)
theorem l128_1 {c : Nat} (h : c < 128) : ∀ x ∈ [c], x < 128 := fun x hx => by rw [List.mem_singleton.mp hx]; exact h
theorem l128_num (v : Nat) : ∀ c ∈ numL v, c < 128 := fun c hc => by
  obtain ⟨i, -, rfl⟩ := List.mem_map.mp hc
  omega
theorem l128_k (i : Nat) : ∀ c ∈ kL i, c < 128 := by
  unfold kL
  split
  · decide
  · split <;> decide
theorem l128_head (G : gT) : ∀ c ∈ headL G, c < 128 := l128_app (l128_app (l128_app (l128_app (l128_app (l128_app (l128_app (l128_app (l128_k 10) (l128_num _)) (l128_1 (by decide))) (l128_num _)) (l128_1 (by decide))) (l128_num _)) (l128_1 (by decide))) (l128_num _)) (l128_1 (by decide))
theorem l128_vil (G : gT) {k : Nat} (hk : k < 3) {t : List Nat} (h : ∀ c ∈ t, c < 128) : ∀ c ∈ vilL G k t, c < 128 := l128_app (l128_app (l128_app (l128_app (l128_app (l128_app (l128_app h (l128_k 11)) (l128_1 (by omega))) (l128_1 (by decide))) (l128_num _)) (l128_1 (by decide))) (l128_num _)) (l128_1 (by decide))
theorem l128_fair (G : gT) {k : Nat} (hk : k < 2) {t : List Nat} (h : ∀ c ∈ t, c < 128) : ∀ c ∈ fairL G k t, c < 128 := l128_app (l128_app (l128_app (l128_app (l128_app (l128_app (l128_app (l128_app (l128_app (l128_app (l128_app h (l128_k 12)) (l128_1 (by omega))) (l128_1 (by decide))) (l128_1 (by have := placeN_le G k; omega))) (l128_1 (by decide))) (l128_num _)) (l128_1 (by decide))) (l128_num _)) (l128_1 (by decide))) (l128_num _)) (l128_1 (by decide))
theorem text_lt' (G : gT) : ∀ j, j < (textL G).length → (textL G).getD j 0 < 128 := fun j hj => by
  have h := l128_fair G (k := 1) (by decide) (l128_fair G (k := 0) (by decide) (l128_vil G (k := 2) (by decide) (l128_vil G (k := 1) (by decide) (l128_vil G (k := 0) (by decide) (l128_head G)))))
  rw [List.getD_eq_getElem?_getD, List.getElem?_eq_getElem hj]
  exact h _ (List.getElem_mem hj)
/-! the books: copies, coins, one forecast a day in a village -/
theorem sub3 {a b c : Int32} : a - b - c = 0 ↔ a = b + c := by
  constructor
  · intro h
    have h1 : a - b = c := by
      have h2 := congrArg (· + c) h
      simp only [Int32.sub_add_cancel, Int32.zero_add] at h2
      exact h2
    have h3 := congrArg (· + b) h1
    simp only [Int32.sub_add_cancel] at h3
    rw [h3, Int32.add_comm]
  · intro h
    rw [h, Int32.add_comm b c, Int32.add_sub_cancel, Int32.sub_self]
theorem i_arc (a b c : Int32) : a + b + c = a + c + b := by rw [Int32.add_assoc, Int32.add_comm b, ← Int32.add_assoc]
def sm (f : Nat → Int32) (i m : Nat) (s : Int32) : Int32 := fo (fun j s => s + f j) i m s
theorem sm_init (f : Nat → Int32) (x : Int32) : ∀ m i s, sm f i m (s + x) = sm f i m s + x
  | 0, _, _ => rfl
  | m + 1, i, s => by
    show sm f (i + 1) m (s + x + f i) = sm f (i + 1) m (s + f i) + x
    rw [← sm_init f x m (i + 1) (s + f i), i_arc]
theorem sm_congr {f g : Nat → Int32} : ∀ m i s, (∀ j, i ≤ j → j < i + m → f j = g j) → sm f i m s = sm g i m s
  | 0, _, _, _ => rfl
  | m + 1, i, s, h => by
    show sm f (i + 1) m (s + f i) = sm g (i + 1) m (s + g i)
    rw [h i (Nat.le_refl _) (by omega)]
    exact sm_congr m (i + 1) _ (fun j h1 h2 => h j (by omega) (by omega))
theorem sm_split (f : Nat → Int32) (m2 : Nat) : ∀ m1 i s, sm f i (m1 + m2) s = sm f (i + m1) m2 (sm f i m1 s)
  | 0, i, s => by rw [Nat.zero_add]; rfl
  | m1 + 1, i, s => by
    rw [show m1 + 1 + m2 = (m1 + m2) + 1 by omega]
    show sm f (i + 1) (m1 + m2) (s + f i) = sm f (i + (m1 + 1)) m2 (sm f (i + 1) m1 (s + f i))
    rw [sm_split f m2 m1 (i + 1) (s + f i), show i + 1 + m1 = i + (m1 + 1) by omega]
theorem sm_shift (f : Nat → Int32) (d : Nat) : ∀ m i s, sm (fun j => f (j + d)) i m s = sm f (i + d) m s
  | 0, _, _ => rfl
  | m + 1, i, s => by
    show sm (fun j => f (j + d)) (i + 1) m (s + f (i + d)) = sm f (i + d + 1) m (s + f (i + d))
    rw [sm_shift f d m (i + 1) _, show i + 1 + d = i + d + 1 by omega]
theorem sm_upd (f : Nat → Int32) (x : Int32) {p n : Nat} (hp : p < n) : sm (upd f p (f p + x)) 0 n 0 = sm f 0 n 0 + x := by
  obtain ⟨m, rfl⟩ : ∃ m, n = p + (1 + m) := ⟨n - p - 1, by omega⟩
  rw [sm_split, sm_split, sm_split, sm_split]
  have e1 : sm (upd f p (f p + x)) 0 p 0 = sm f 0 p 0 := sm_congr p 0 0 (fun j h1 h2 => if_neg (by omega))
  have e2 : ∀ s, sm (upd f p (f p + x)) (0 + p) 1 s = sm f (0 + p) 1 s + x := fun s => by
    show s + upd f p (f p + x) (0 + p) = s + f (0 + p) + x
    rw [Nat.zero_add, show upd f p (f p + x) p = f p + x from if_pos rfl, Int32.add_assoc]
  have e3 : ∀ s, sm (upd f p (f p + x)) (0 + p + 1) m s = sm f (0 + p + 1) m s := fun s => sm_congr m _ s (fun j h1 h2 => if_neg (by omega))
  rw [e1, e2, e3, sm_init]
/-- what a removal takes from a sum -/
theorem sm_rem (f g : Nat → Int32) {p d n : Nat} (hp : p + d ≤ n) (h1 : ∀ j, j < n - d → g j = f (if j < p then j else j + d)) : sm f 0 n 0 = sm g 0 (n - d) 0 + sm f p d 0 := by
  obtain ⟨m, rfl⟩ : ∃ m, n = p + (d + m) := ⟨n - p - d, by omega⟩
  rw [sm_split, sm_split, show p + (d + m) - d = p + m by omega, sm_split, Nat.zero_add]
  have e1 : sm g 0 p 0 = sm f 0 p 0 := sm_congr p 0 0 (fun j a b => by rw [h1 j (by omega), if_pos (by omega)])
  have e2 : ∀ s, sm g p m s = sm f (p + d) m s := fun s => by
    rw [← sm_shift]
    exact sm_congr m p s (fun j a b => by rw [h1 j (by omega), if_neg (by omega)])
  have e3 : sm f p d (sm f 0 p 0) = sm f 0 p 0 + sm f p d 0 := by
    have h := sm_init f (sm f 0 p 0) d p 0
    rw [Int32.zero_add] at h
    rw [h, Int32.add_comm]
  rw [e1, e2, e3, sm_init]
theorem db_iff {n : Nat} {S : CT} (hn : n ≤ 30) : DB n S ↔ ∀ i j, i < j → j < n → ¬ (S 10 i = S 10 j ∧ S 11 i = S 11 j) := by
  constructor
  · intro h i j hij hj he
    have e1 := h i (by omega)
    have e2 := h j hj
    rw [he.1, he.2] at e1
    exact absurd (nI_ij (by omega) (by omega) (e1.symm.trans e2)) (by omega)
  · intro h k hk
    rcases fnd_cases (bkp S (S 10 k) (S 11 k)) n n 0 rfl with e | ⟨j, -, h2, h3, h4⟩
    · have g : ∀ m i, i ≤ k → i + m = n → fnd (bkp S (S 10 k) (S 11 k)) i m ≠ -1 := by
        intro m
        induction m with
        | zero => exact fun i h1 h2 => absurd h1 (by omega)
        | succ m ih =>
          intro i h1 h2
          by_cases hb : bkp S (S 10 k) (S 11 k) i = true
          · have e9 := fnd_hit (p := bkp S (S 10 k) (S 11 k)) (i := i) (n := n) (by omega) hb
            rw [show n - i = m + 1 by omega] at e9
            rw [e9]
            exact nI_ne_m1 (by omega)
          · by_cases hik : i = k
            · subst hik
              exact absurd (by simp [bkp]) hb
            · have e9 := fnd_step (p := bkp S (S 10 k) (S 11 k)) (i := i) (n := n) (by omega) (Bool.eq_false_iff.mpr hb)
              rw [show n - i = m + 1 by omega, show n - (i + 1) = m by omega] at e9
              rw [e9]
              exact ih (i + 1) (by omega) (by omega)
      exact absurd e (g n 0 (by omega) (by omega))
    · simp only [bkp, Bool.and_eq_true, decide_eq_true_eq] at h3
      have hjk : j = k := by
        rcases Nat.lt_trichotomy j k with h9 | h9 | h9
        · exact absurd h3 (h j k h9 hk)
        · exact h9
        · exact absurd ⟨h3.1.symm, h3.2.symm⟩ (h k j h9 h2)
      subst hjk
      exact h4
def CO2 (n : Nat) (S : CT) : Prop := S 16 5 = sm (S 13) 0 n 0 + S 16 6 ∧ S 16 7 = S 16 8 + S 16 1 ∧ ∀ i j, i < j → j < n → ¬ (S 10 i = S 10 j ∧ S 11 i = S 11 j)
theorem co_iff {S : CT} (hn : bcO S ≤ 30) : CO S ↔ CO2 (bcO S) S := by
  unfold CO CO2
  rw [sub3, sub3, db_iff hn]
  rfl
theorem CO2.rem {n p d : Nat} {X Y : CT} {old : Int32} (hp : p + d ≤ n) (h5 : X 16 5 = sm (X 13) 0 n 0 + old) (h6 : X 16 6 = old + sm (X 13) p d 0) (h7 : X 16 7 = X 16 8 + X 16 1) (hd : ∀ i j, i < j → j < n → ¬ (X 10 i = X 10 j ∧ X 11 i = X 11 j)) (hY : Y = s_remove X p (p + d) n) : CO2 (n - d) Y := by
  have row : ∀ r, 10 ≤ r → r ≤ 14 → ∀ j, j < n - d → Y r j = X r (if j < p then j else j + d) := fun r h1 h2 j hj => by
    have h0 : Y r = va_cpy (X r) (X r) (p + d) p (n - (p + d)) := by
      have h9 : r = 10 ∨ r = 11 ∨ r = 12 ∨ r = 13 ∨ r = 14 := by omega
      rw [hY]
      rcases h9 with rfl | rfl | rfl | rfl | rfl <;> rfl
    rw [h0]
    by_cases h : j < p
    · rw [pk_cpy_out (Or.inl h), if_pos h]
    · rw [pk_cpy_in (by omega) (by omega), if_neg h]
      congr 1
      omega
  have y16 : ∀ j, j ≠ 12 → Y 16 j = X 16 j := fun j hj => by
    rw [hY]
    show upd (X 16) 12 _ j = _
    exact if_neg hj
  refine ⟨?_, ?_, fun i j hij hj => ?_⟩
  · rw [y16 5 (by decide), y16 6 (by decide), h5, h6, sm_rem (X 13) (Y 13) hp (row 13 (by decide) (by decide)), Int32.add_assoc, Int32.add_comm old]
  · rw [y16 7 (by decide), y16 8 (by decide), y16 1 (by decide)]
    exact h7
  · rw [row 10 (by decide) (by decide) i (by omega), row 10 (by decide) (by decide) j hj, row 11 (by decide) (by decide) i (by omega), row 11 (by decide) (by decide) j hj]
    exact hd _ _ (by split <;> split <;> omega) (by split <;> omega)
theorem pay7 {a b c r : Int32} (h : a = b + c) : a = (b + r) + (c - r) := by
  rw [h, Int32.add_assoc, Int32.add_comm r, Int32.sub_add_cancel]
theorem CO2.sellT {n i : Nat} {T : CT} (hT : CO2 n T) (hi : i < n) (cp pr : Int32) : CO2 n (s_sellT T i cp pr) := by
  obtain ⟨h1, h2, h3⟩ := hT
  refine ⟨?_, ?_, h3⟩
  · show T 16 5 + cp = sm (upd (T 13) i (T 13 i + cp)) 0 n 0 + T 16 6
    rw [sm_upd _ _ hi, h1, i_arc]
  · show T 16 7 + pr = T 16 8 + (T 16 1 + pr)
    rw [h2, Int32.add_assoc]
theorem CO2.sellAt {n f : Nat} {T : CT} (hT : CO2 n T) : CO2 n (s_sellAt T f n 3) := by
  have g : ∀ m i (p : CT × Int32), i + m = n → CO2 n p.1 → CO2 n (fo (s_sellB (T 4 f) f 3) i m p).1 := by
    intro m
    induction m with
    | zero => exact fun _ _ _ h => h
    | succ m ih =>
      intro i p hi hp
      refine ih (i + 1) _ (by omega) ?_
      unfold s_sellB
      split
      · split
        · exact hp
        · exact hp.sellT (by omega) _ _
      · exact hp
  exact g n 0 (T, T 6 f) (by omega) hT
theorem CO2.judge {n mc vg w9 : Nat} {T : CT} (hT : HV n mc T) (hC : CO2 n T) (hvg : vg < 3) : CO2 (bcO (s_judge T vg w9 n 3 mc)) (s_judge T vg w9 n 3 mc) := by
  obtain ⟨c5, c7, cd⟩ := hC
  rcases placeOf_cases T (nI vg) (T 16 0) n with e | ⟨k, hk, e, -, -⟩
  · have h9 : s_judge T vg w9 n 3 mc = T := if_pos e
    rw [h9, hT.bc]
    exact ⟨c5, c7, cd⟩
  · have one : ∀ (f : Nat → Int32) (o : Int32), o + f k = o + sm f k 1 0 := fun f o => by
      show _ = o + (0 + f k)
      rw [Int32.zero_add]
    by_cases c1 : T 12 k = nI w9
    · rw [bc_hit' hT hk hvg e c1]
      exact CO2.rem (X := us (us (us T 16 2 (T 16 2 + 1)) 2 vg (clampT (T 2 vg + 5))) 16 6 (T 16 6 + T 13 k)) (old := T 16 6) (p := k) (d := 1) (by omega) c5 (one (T 13) _) c7 cd (judge_hit hT hk hvg e c1)
    · rw [bc_miss' hT hk hvg e c1]
      have hj := judge_miss hT hk hvg e c1
      rw [s_judgeEnd] at hj
      have mk : ∀ r, r ≠ 15 → r ≠ 16 → s_memAdd (us T 16 3 (T 16 3 + 1)) (nI vg) (T 16 0) mc r = T r := fun r h1 h2 => by
        rw [mem_k _ _ _ _ h1 h2]
        show (if r = 16 then _ else _) = _
        rw [if_neg h2]
      have m16 : ∀ j, j ≠ 13 → s_memAdd (us T 16 3 (T 16 3 + 1)) (nI vg) (T 16 0) mc 16 j = (us T 16 3 (T 16 3 + 1)) 16 j := fun j hj => s_memAdd_16 _ _ _ _ _ hj
      obtain ⟨M, hM⟩ : ∃ M, M = s_memAdd (us T 16 3 (T 16 3 + 1)) (nI vg) (T 16 0) mc := ⟨_, rfl⟩
      rw [← hM] at mk m16 hj
      obtain ⟨r, hr⟩ : ∃ r, r = (if w9 = 2 then T 14 k + 10 else T 14 k / 2) := ⟨_, rfl⟩
      rw [← hr] at hj
      refine CO2.rem (old := T 16 6) (p := k) (d := 1) (by omega) ?_ ?_ ?_ ?_ hj
      · show M 16 5 = sm (M 13) 0 n 0 + T 16 6
        rw [m16 5 (by decide), mk 13 (by decide) (by decide)]
        exact c5
      · show M 16 6 + M 13 k = T 16 6 + sm (M 13) k 1 0
        rw [m16 6 (by decide), mk 13 (by decide) (by decide)]
        exact one (T 13) _
      · show M 16 7 = (M 16 8 + r) + (M 16 1 - r)
        rw [m16 7 (by decide), m16 8 (by decide), m16 1 (by decide)]
        exact pay7 c7
      · show ∀ i j, i < j → j < n → ¬ (M 10 i = M 10 j ∧ M 11 i = M 11 j)
        rw [mk 10 (by decide) (by decide), mk 11 (by decide) (by decide)]
        exact cd
/-- the whole invariant, but for the day -/
def INV (S : CT) : Prop := HV (bcO S) (mcO S) S ∧ CO2 (bcO S) S
theorem INV.vil {T : CT} {vg : Nat} (h : INV T) (hv : vg < 3) : INV (s_vilB vg T) := by
  refine ⟨vil_hv' h.1 hv, ?_⟩
  have h9 := CO2.judge (n := bcO T) (mc := mcO T) (w9 := s_drawW T) (T := s_draw T) (draw_hv' h.1) h.2 hv
  rw [s_vilB, h.1.vc]
  exact h9
theorem INV.fair {T : CT} {f : Nat} (h : INV T) (hf : f < 2) : INV (s_fairB f T) := by
  have e1 : bcO (s_fairB f T) = bcO T := by
    unfold s_fairB
    split
    · exact congrArg Int32.toNatClampNeg (s_sellAt_16 _ _ _ _ 12 (by decide) (by decide) (by decide))
    · rfl
  have e2 : mcO (s_fairB f T) = mcO T := by
    unfold s_fairB
    split
    · exact congrArg Int32.toNatClampNeg (s_sellAt_16 _ _ _ _ 13 (by decide) (by decide) (by decide))
    · rfl
  refine ⟨by rw [e1, e2]; exact fairB_hv hf h.1, ?_⟩
  rw [e1]
  unfold s_fairB
  split
  · rw [h.1.vc]; exact h.2.sellAt
  · exact h.2
theorem INV.year {T : CT} (h : INV T) : INV (s_closeYear T) := by
  have eb : bcO (s_closeYear T) = bcO T := congrArg Int32.toNatClampNeg (s_closeYear_16 T 12)
  have em : mcO (s_closeYear T) = mcO T := congrArg Int32.toNatClampNeg (s_closeYear_16 T 13)
  refine ⟨by rw [eb, em]; exact cy_hv h.1, ?_⟩
  rw [eb]
  obtain ⟨D, d1, d2, d3, d4⟩ := cyear h.1
  obtain ⟨c5, c7, cd⟩ := h.2
  rw [d1]
  refine ⟨?_, ?_, ?_⟩
  · show D 16 5 = sm (D 13) 0 (bcO T) 0 + D 16 6
    rw [d3 16 (by decide), d3 13 (by decide)]
    exact c5
  · show D 16 7 = D 16 8 + D 16 1
    rw [d3 16 (by decide)]
    exact c7
  · show ∀ i j, i < j → j < bcO T → ¬ (D 10 i = D 10 j ∧ D 11 i = D 11 j)
    rw [d3 10 (by decide), d3 11 (by decide)]
    exact cd
theorem INV.day {S : CT} {dy : Nat} (h : INV S) (hd : S 16 0 = nI dy) (h1 : dy + 1 ≤ 1000) : INV (s_day S) := by
  have h0 := h.1.d1 hd h1
  rw [day_unf' h0]
  have hX : INV (us S 16 0 (S 16 0 + 1)) := ⟨h0, h.2⟩
  have h3 := (((hX.fair (f := 0) (by decide)).fair (f := 1) (by decide)).vil (vg := 0) (by decide)).vil (vg := 1) (by decide) |>.vil (vg := 2) (by decide)
  unfold s_dayY
  split
  · exact h3.year
  · exact h3
theorem INV.days {S : CT} {dy : Nat} (h : INV S) (hd : S 16 0 = nI dy) : ∀ m, dy + m ≤ 1000 → INV (s_days m S) ∧ s_days m S 16 0 = nI (dy + m)
  | 0, _ => ⟨h, hd⟩
  | m + 1, hm => by
    obtain ⟨i1, i2⟩ := h.days hd m (by omega)
    rw [days_suc]
    exact ⟨i1.day i2 (by omega), (day_hv' i1.1 i2 (by omega)).2⟩
theorem INV.book {S : CT} {v t : Nat} {d : Int32} (h : INV S) (hv : v < 3) (hr : s_refusal S (nI v) d (bcO S) = 0) : INV (s_bookAdd S (nI v) d (nI t) (bcO S)) := by
  obtain ⟨hS, c5, c7, cd⟩ := h
  have hn := hS.1.2
  obtain ⟨n, hnn⟩ : ∃ n, n = bcO S := ⟨_, rfl⟩
  rw [← hnn] at hS c5 cd hr hn ⊢
  have hmc : mcO S = mcO S := rfl
  have hpl : s_placeOf S (nI v) d n = -1 ∧ n < 30 := by
    unfold s_refusal at hr
    split at hr
    · split at hr
      · next h1 =>
        split at hr
        · next h2 => exact ⟨h1, h2⟩
        · exact absurd hr (by decide)
      · exact absurd hr (by decide)
    · exact absurd hr (by decide)
  have hno : ∀ i, i < n → ¬ (S 10 i = nI v ∧ S 11 i = d) := fun i hi he => by
    have g : ∀ m k, k ≤ i → k + m = n → fnd (bkp S (nI v) d) k m ≠ -1 := by
      intro m
      induction m with
      | zero => exact fun k h1 h2 => absurd h1 (by omega)
      | succ m ih =>
        intro k h1 h2
        by_cases hb : bkp S (nI v) d k = true
        · have e9 := fnd_hit (p := bkp S (nI v) d) (i := k) (n := n) (by omega) hb
          rw [show n - k = m + 1 by omega] at e9
          rw [e9]
          exact nI_ne_m1 (by omega)
        · by_cases hik : k = i
          · subst hik
            exact absurd (by simp [bkp, he.1, he.2]) hb
          · have e9 := fnd_step (p := bkp S (nI v) d) (i := k) (n := n) (by omega) (Bool.eq_false_iff.mpr hb)
            rw [show n - k = m + 1 by omega, show n - (k + 1) = m by omega] at e9
            rw [e9]
            exact ih (k + 1) (by omega) (by omega)
    exact g n 0 (by omega) (by omega) hpl.1
  have eb : bcO (s_bookAdd S (nI v) d (nI t) n) = n + 1 := nI_clamp (by omega)
  have em : mcO (s_bookAdd S (nI v) d (nI t) n) = mcO S := rfl
  have r10 : ∀ i, i < n → s_bookAdd S (nI v) d (nI t) n 10 i = S 10 i := fun i hi => (if_neg (by omega) : upd (S 10) n (nI v) i = S 10 i)
  have r11 : ∀ i, i < n → s_bookAdd S (nI v) d (nI t) n 11 i = S 11 i := fun i hi => (if_neg (by omega) : upd (S 11) n d i = S 11 i)
  have r13 : ∀ i, i < n → s_bookAdd S (nI v) d (nI t) n 13 i = S 13 i := fun i hi => (if_neg (by omega) : upd (S 13) n 0 i = S 13 i)
  have n10 : s_bookAdd S (nI v) d (nI t) n 10 n = nI v := if_pos rfl
  have n11 : s_bookAdd S (nI v) d (nI t) n 11 n = d := if_pos rfl
  have n13 : s_bookAdd S (nI v) d (nI t) n 13 n = 0 := if_pos rfl
  unfold INV
  rw [eb, em]
  obtain ⟨h1, h2, h3, h4, h5, h6, h7, h8, h9⟩ := hS
  refine ⟨⟨⟨rfl, by omega⟩, h2, h3, fun k hk => ?_, h5, h6, h7, h8, h9⟩, ?_, c7, fun i j hij hj => ?_⟩
  · by_cases hkn : k = n
    · subst hkn
      exact ⟨v, 0, hv, by omega, n10, n13⟩
    · rw [r10 k (by omega), r13 k (by omega)]
      exact h4 k (by omega)
  · show S 16 5 = sm (s_bookAdd S (nI v) d (nI t) n 13) 0 (n + 1) 0 + S 16 6
    rw [show sm (s_bookAdd S (nI v) d (nI t) n 13) 0 (n + 1) 0 = sm (s_bookAdd S (nI v) d (nI t) n 13) 0 n 0 + s_bookAdd S (nI v) d (nI t) n 13 (0 + n) from fo_back _ n 0 0, Nat.zero_add, n13, Int32.add_zero, sm_congr (g := S 13) n 0 0 (fun j a b => r13 j (by omega))]
    exact c5
  · by_cases hjn : j = n
    · subst hjn
      rw [n10, n11, r10 i (by omega), r11 i (by omega)]
      exact hno i (by omega)
    · rw [r10 i (by omega), r11 i (by omega), r10 j (by omega), r11 j (by omega)]
      exact cd i j hij (by omega)
theorem upd3 (F : Nat → Int32) (z r : Int32) : upd (upd (upd F 12 z) 1 (upd F 12 z 1 - r)) 8 (upd F 12 z 8 + r) = upd (upd (upd F 1 (F 1 - r)) 8 (F 8 + r)) 12 z := by
  funext b
  by_cases h8 : b = 8
  · subst h8; rfl
  · by_cases h1 : b = 1
    · subst h1; rfl
    · by_cases h12 : b = 12
      · subst h12; rfl
      · unfold upd
        rw [if_neg h8, if_neg h1, if_neg h12, if_neg h12, if_neg h8, if_neg h1]
theorem INV.back {S : CT} {pg : Nat} (h : INV S) (hpg : 4 * pg < bcO S) : INV (s_takeBack S pg (bcO S) 3) := by
  obtain ⟨hS, c5, c7, cd⟩ := h
  have hn := hS.1.2
  obtain ⟨eb, em⟩ := tb_cnt' hS hpg
  obtain ⟨n, hnn⟩ : ∃ n, n = bcO S := ⟨_, rfl⟩
  rw [← hnn] at hS c5 cd hn eb em hpg ⊢
  unfold INV
  rw [eb, em]
  obtain ⟨e, he⟩ : ∃ e, e = min n (4 * pg + 4) := ⟨_, rfl⟩
  rw [← he]
  obtain ⟨l2, l3, l4, l5, l6⟩ := tb_loop (S := S) (n := n) hS.vr hS.tr (4 * pg) (e - 4 * pg) (by omega)
  obtain ⟨L, hL⟩ : ∃ L, L = fo (s_tbBody 3) (4 * pg) (e - 4 * pg) S := ⟨_, rfl⟩
  rw [← hL] at l2 l3 l4 l5 l6
  obtain ⟨r, hr⟩ : ∃ r, r = s_paidForPage S pg n := ⟨_, rfl⟩
  have hb : s_takeBack S pg n 3 = s_remove (s_payBack L r) (4 * pg) (4 * pg + (e - 4 * pg)) n := by
    rw [hL, hr, show 4 * pg + (e - 4 * pg) = e by omega, he]
    unfold s_takeBack s_tbLoop
    funext a
    by_cases h16 : a = 16
    · subst h16
      exact upd3 _ _ _
    · show (if a = 16 then _ else if a = 16 then _ else if a = 16 then _ else if a = 14 then _ else if a = 13 then _ else if a = 12 then _ else if a = 11 then _ else if a = 10 then _ else _) = (if a = 16 then _ else if a = 14 then _ else if a = 13 then _ else if a = 12 then _ else if a = 11 then _ else if a = 10 then _ else (if a = 16 then _ else if a = 16 then _ else _))
      rw [if_neg h16, if_neg h16, if_neg h16, if_neg h16, if_neg h16, if_neg h16]
      rfl
  have row : ∀ r9, 10 ≤ r9 → r9 ≤ 14 → ∀ j, j < n - (e - 4 * pg) → s_takeBack S pg n 3 r9 j = S r9 (if j < 4 * pg then j else j + (e - 4 * pg)) := fun r9 h1 h2 j hj => by
    have h0 : s_takeBack S pg n 3 r9 = va_cpy (L r9) (L r9) (4 * pg + (e - 4 * pg)) (4 * pg) (n - (4 * pg + (e - 4 * pg))) := by
      have h9 : r9 = 10 ∨ r9 = 11 ∨ r9 = 12 ∨ r9 = 13 ∨ r9 = 14 := by omega
      rw [hb]
      rcases h9 with rfl | rfl | rfl | rfl | rfl <;> rfl
    rw [h0, l3 r9 (by omega) (by omega)]
    by_cases h : j < 4 * pg
    · rw [pk_cpy_out (Or.inl h), if_pos h]
    · rw [pk_cpy_in (by omega) (by omega), if_neg h]
      congr 1
      omega
  have b16 : ∀ j, j ≠ 1 → j ≠ 8 → j ≠ 12 → j ≠ 4 → j ≠ 6 → s_takeBack S pg n 3 16 j = S 16 j := fun j h1 h2 h3 h4 h6 => by
    rw [hb]
    show upd (upd (upd (L 16) 1 _) 8 _) 12 _ j = _
    unfold upd
    rw [if_neg h3, if_neg h2, if_neg h1]
    exact l4 j h4 h6
  have ot : ∀ a, a ≠ 2 → a ≠ 16 → ¬ (10 ≤ a ∧ a ≤ 14) → s_takeBack S pg n 3 a = S a := fun a h1 h2 h3 => by
    rw [hb]
    show (if a = 16 then _ else if a = 14 then _ else if a = 13 then _ else if a = 12 then _ else if a = 11 then _ else if a = 10 then _ else (if a = 16 then _ else if a = 16 then _ else L a)) = _
    rw [if_neg h2, if_neg (by omega), if_neg (by omega), if_neg (by omega), if_neg (by omega), if_neg (by omega), if_neg h2, if_neg h2]
    exact l3 a h1 h2
  have b2 : s_takeBack S pg n 3 2 = L 2 := by rw [hb]; rfl
  have b12 : s_takeBack S pg n 3 16 12 = nI (n - (e - 4 * pg)) := by
    rw [hb]
    show nI (4 * pg + (n - (4 * pg + (e - 4 * pg)))) = _
    exact congrArg nI (by omega)
  obtain ⟨h1, h2, h3, h4, h5, h6, h7, h8, h9⟩ := hS
  refine ⟨⟨⟨b12, by omega⟩, ⟨by rw [b16 13 (by decide) (by decide) (by decide) (by decide) (by decide)]; exact h2.1, h2.2⟩, ⟨by rw [b16 9 (by decide) (by decide) (by decide) (by decide) (by decide)]; exact h3.1, by rw [b16 10 (by decide) (by decide) (by decide) (by decide) (by decide)]; exact h3.2⟩, fun k hk => ?_, fun k hk => ?_, by rw [s_sumO, ot 8 (by decide) (by decide) (by decide)]; exact h6, by rw [ot 4 (by decide) (by decide) (by decide), ot 5 (by decide) (by decide) (by decide), ot 6 (by decide) (by decide) (by decide)]; exact h7, by rw [b16 11 (by decide) (by decide) (by decide) (by decide) (by decide)]; exact h8, by rw [b16 0 (by decide) (by decide) (by decide) (by decide) (by decide)]; exact h9⟩, ?_⟩
  · rw [row 10 (by decide) (by decide) k hk, row 13 (by decide) (by decide) k hk]
    exact h4 _ (by split <;> omega)
  · obtain ⟨p, t, o, a1, a2, a3, a4, a5, a6, a7⟩ := h5 k hk
    rw [ot 1 (by decide) (by decide) (by decide), ot 8 (by decide) (by decide) (by decide), b2, l2 k t hk a6 a3]
    exact ⟨p, _, o, a1, a2, by omega, a4, a5, rfl, a7⟩
  · have hi := sm_init (S 13) (S 16 6) (e - 4 * pg) (4 * pg) 0
    rw [Int32.zero_add, Int32.add_comm (sm (S 13) (4 * pg) (e - 4 * pg) 0)] at hi
    refine CO2.rem (X := s_payBack L r) (old := S 16 6) (p := 4 * pg) (d := e - 4 * pg) (by omega) ?_ ?_ ?_ ?_ hb
    · show L 16 5 = sm (L 13) 0 n 0 + S 16 6
      rw [l4 5 (by decide) (by decide), l3 13 (by decide) (by decide)]
      exact c5
    · show L 16 6 = S 16 6 + sm (L 13) (4 * pg) (e - 4 * pg) 0
      rw [l6, l3 13 (by decide) (by decide)]
      exact hi
    · show L 16 7 = (L 16 8 + r) + (L 16 1 - r)
      rw [l4 7 (by decide) (by decide), l4 8 (by decide) (by decide), l4 1 (by decide) (by decide)]
      exact pay7 c7
    · show ∀ i j, i < j → j < n → ¬ (L 10 i = L 10 j ∧ L 11 i = L 11 j)
      rw [l3 10 (by decide) (by decide), l3 11 (by decide) (by decide)]
      exact cd
theorem tb_day {S : CT} {pg n : Nat} : s_takeBack S pg n 3 16 0 = S 16 0 := by
  show s_tbLoop S pg n 3 16 0 = S 16 0
  exact s_tbLoop_16 _ _ _ _ 0 (by decide) (by decide)
theorem INV.setT {S : CT} {v w : Nat} (h : INV S) (hv : v < 3) (hw : w ≤ 100) : INV (us S 2 v (nI w)) := ⟨h.1.trust hv ⟨w, hw, rfl⟩, h.2⟩
theorem INV.setP {S : CT} {v w : Nat} (h : INV S) (hv : v < 3) (hw : 1 ≤ w ∧ w ≤ 99) : INV (us S 1 v (nI w)) := by
  obtain ⟨⟨h1, h2, h3, h4, h5, h6, h7, h8, h9⟩, hC⟩ := h
  refine ⟨⟨h1, h2, h3, h4, fun k hk => ?_, h6, h7, h8, h9⟩, hC⟩
  obtain ⟨p, t, o, a1, a2, a3, a4, a5, a6, a7⟩ := h5 k hk
  by_cases hkv : k = v
  · subst hkv
    exact ⟨w, t, o, hw.1, hw.2, a3, a4, if_pos rfl, a6, a7⟩
  · exact ⟨p, t, o, a1, a2, a3, a4, (if_neg hkv : upd (S 1) v (nI w) k = S 1 k).trans a5, a6, a7⟩
theorem INV.setO {S : CT} {v w : Nat} (h : INV S) (hv : v < 3) (hw : w ≤ 20) (hne : ¬ S 8 0 + S 8 1 + S 8 2 - S 8 v + nI w = 0) : INV (us S 8 v (nI w)) := by
  obtain ⟨⟨h1, h2, h3, h4, h5, h6, h7, h8, h9⟩, hC⟩ := h
  refine ⟨⟨h1, h2, h3, h4, fun k hk => ?_, ?_, h7, h8, h9⟩, hC⟩
  · obtain ⟨p, t, o, a1, a2, a3, a4, a5, a6, a7⟩ := h5 k hk
    by_cases hkv : k = v
    · subst hkv
      exact ⟨p, t, w, a1, a2, a3, hw, a5, a6, if_pos rfl⟩
    · exact ⟨p, t, o, a1, a2, a3, a4, a5, a6, (if_neg hkv : upd (S 8) v (nI w) k = S 8 k).trans a7⟩
  · obtain ⟨p0, t0, o0, -, -, -, b0, -, -, f0⟩ := h5 0 (by decide)
    obtain ⟨p1, t1, o1, -, -, -, b1, -, -, f1⟩ := h5 1 (by decide)
    obtain ⟨p2, t2, o2, -, -, -, b2, -, -, f2⟩ := h5 2 (by decide)
    have hv' : v = 0 ∨ v = 1 ∨ v = 2 := by omega
    show ¬ upd (S 8) v (nI w) 0 + upd (S 8) v (nI w) 1 + upd (S 8) v (nI w) 2 = 0
    rw [f0, f1, f2, nI_add, nI_add] at hne
    rcases hv' with rfl | rfl | rfl
    · rw [f0, pk_sub (by omega), nI_add] at hne
      show ¬ nI w + S 8 1 + S 8 2 = 0
      rw [f1, f2, nI_add, nI_add]
      exact fun h => hne (by rw [← h]; exact congrArg nI (by omega))
    · rw [f1, pk_sub (by omega), nI_add] at hne
      show ¬ S 8 0 + nI w + S 8 2 = 0
      rw [f0, f2, nI_add, nI_add]
      exact fun h => hne (by rw [← h]; exact congrArg nI (by omega))
    · rw [f2, pk_sub (by omega), nI_add] at hne
      show ¬ S 8 0 + S 8 1 + nI w = 0
      rw [f0, f1, nI_add, nI_add]
      exact fun h => hne (by rw [← h]; exact congrArg nI (by omega))
theorem ls_acts' {c : Nat} {S : CT} (hc : c < 38) (h : LQ c S) (y t q : Nat) (hq : q < 32) : LQ (c + 1) (hActs (bcO S) S y t q).2 := by
  obtain ⟨hS, ⟨dy, hdy, hdl⟩, hCO⟩ := h
  have hn := hS.1.2
  have hI : INV S := ⟨hS, (co_iff hn).mp hCO⟩
  have fin : ∀ X, INV X → (∃ d9, X 16 0 = nI d9 ∧ d9 ≤ 25 * (c + 1)) → LQ (c + 1) X := fun X hX hd => ⟨hX.1, hd, (co_iff hX.1.1.2).mpr hX.2⟩
  have same : ∃ d9, S 16 0 = nI d9 ∧ d9 ≤ 25 * (c + 1) := ⟨dy, hdy, by omega⟩
  unfold hActs
  split
  · exact fin S hI same
  · next hg =>
    split
    · unfold hPrint
      split
      · next hr => exact fin _ (hI.book (Nat.mod_lt _ (by decide)) hr) same
      · exact fin S hI same
    · split
      · next h1 h2 =>
        have hn0 : 0 < bcO S := Nat.pos_of_ne_zero (fun h9 => hg ⟨by omega, h2, h9⟩)
        have hpg : y % ((bcO S + 3) / 4) < (bcO S + 3) / 4 := Nat.mod_lt _ (by omega)
        unfold hRet
        split
        · exact fin S hI same
        · exact fin _ (hI.back (by omega)) ⟨dy, tb_day.trans hdy, by omega⟩
      · split
        · exact fin _ (hI.setT (Nat.mod_lt _ (by decide)) (by omega)) same
        · split
          · exact fin _ (hI.setP (Nat.mod_lt _ (by decide)) (by omega)) same
          · split
            · unfold hOdds
              split
              · exact fin S hI same
              · next hne => exact fin _ (hI.setO (Nat.mod_lt _ (by decide)) (by omega) hne) same
            · have hM3 : 0 < hM q ∧ hM q ≤ 25 := by rw [hM]; split <;> omega
              have hzm : t % hM q < hM q := Nat.mod_lt _ hM3.1
              obtain ⟨i1, i2⟩ := hI.days hdy (t % hM q + 1) (by omega)
              exact fin _ i1 ⟨_, i2, by omega⟩
/-! the parse of the law's text -/
/-- from p on the text is L -/
def Sf (f : RT) (il p : Nat) (L : List Nat) : Prop := il = p + L.length ∧ ∀ j, j < L.length → f (p + j) = nI (L.getD j 0)
theorem getD_app_l {A B : List Nat} {j : Nat} (h : j < A.length) : (A ++ B).getD j 0 = A.getD j 0 := by rw [List.getD_eq_getElem?_getD, List.getD_eq_getElem?_getD, List.getElem?_append_left h]
theorem getD_app_r {A B : List Nat} (j : Nat) : (A ++ B).getD (A.length + j) 0 = B.getD j 0 := by rw [List.getD_eq_getElem?_getD, List.getD_eq_getElem?_getD, List.getElem?_append_right (by omega), Nat.add_sub_cancel_left]
theorem Sf.drop {f : RT} {il p : Nat} {A B : List Nat} (h : Sf f il p (A ++ B)) : Sf f il (p + A.length) B := by
  obtain ⟨h1, h2⟩ := h
  rw [List.length_append] at h1 h2
  refine ⟨by omega, fun j hj => ?_⟩
  have h9 := h2 (A.length + j) (by omega)
  rw [getD_app_r] at h9
  rw [← h9, Nat.add_assoc]
theorem Sf.at {f : RT} {il p : Nat} {A B : List Nat} (h : Sf f il p (A ++ B)) {j : Nat} (hj : j < A.length) : f (p + j) = nI (A.getD j 0) := by
  have h9 := h.2 j (by rw [List.length_append]; omega)
  rw [getD_app_l hj] at h9
  exact h9
theorem run_len {P : Int32 → Bool} {f : RT} {il : Nat} : ∀ (m i : Nat), (∀ j, j < m → P (f (i + j)) = true) → i + m ≤ il → (i + m < il → P (f (i + m)) = false) → q_run P f (il - i) i = i + m
  | 0, i, _, h2, h3 => by
    by_cases h : i < il
    · exact q_run_stop (h3 h)
    · exact q_run_end (by omega)
  | m + 1, i, h1, h2, h3 => by
    rw [q_run_go (by omega) (show P (f i) = true from h1 0 (by omega)), run_len m (i + 1) (fun j hj => by rw [show i + 1 + j = i + (j + 1) by omega]; exact h1 (j + 1) (by omega)) (by omega) (fun h => by rw [show i + 1 + m = i + (m + 1) by omega]; exact h3 (by omega))]
    omega
def isL (c : Nat) : Prop := 97 ≤ c ∧ c ≤ 122
def isD (c : Nat) : Prop := 48 ≤ c ∧ c ≤ 57
theorem let_iff {c : Nat} (h : c < 1000) : q_let (nI c) ↔ isL c := by
  unfold isL
  constructor
  · intro h9
    have a : ¬ c < 97 := fun h8 => h9.1 ((nI_ltI (a := c) (b := 97) (by omega) (by decide)).mpr h8)
    have b : ¬ 122 < c := fun h8 => h9.2 ((nI_ltI (a := 122) (b := c) (by decide) (by omega)).mpr h8)
    omega
  · intro h9
    exact ⟨nI_nlt (a := c) (b := 97) h9.1 (by omega), nI_nlt (a := 122) (b := c) h9.2 (by decide)⟩
theorem dig_iff {c : Nat} (h : c < 1000) : q_dig (nI c) ↔ isD c := by
  unfold isD
  constructor
  · intro h9
    have a : ¬ c < 48 := fun h8 => h9.1 ((nI_ltI (a := c) (b := 48) (by omega) (by decide)).mpr h8)
    have b : ¬ 57 < c := fun h8 => h9.2 ((nI_ltI (a := 57) (b := c) (by decide) (by omega)).mpr h8)
    omega
  · intro h9
    exact ⟨nI_nlt (a := c) (b := 48) h9.1 (by omega), nI_nlt (a := 57) (b := c) h9.2 (by decide)⟩
theorem bl_iff {c : Nat} (h : c < 1000) : q_bl (nI c) ↔ c = 32 ∨ c = 10 := by
  constructor
  · intro h9
    rcases h9 with h9 | h9
    · exact Or.inl (nI_ij (by omega) (by decide) (h9 : nI c = nI 32))
    · exact Or.inr (nI_ij (by omega) (by decide) (h9 : nI c = nI 10))
  · intro h9
    rcases h9 with rfl | rfl
    · exact Or.inl rfl
    · exact Or.inr rfl
/-- blanks: none or one -/
theorem ts_eq {f : RT} {il p : Nat} {B T : List Nat} (hB : B = [] ∨ B = [32]) (h : Sf f il p (B ++ T)) (hT : ∀ c R, T = c :: R → c < 1000 ∧ c ≠ 32 ∧ c ≠ 10) : tS f il p = p + B.length := by
  have hd := h.drop
  refine run_len B.length p (fun j hj => ?_) (by have := hd.1; omega) (fun h9 => ?_)
  · rcases hB with rfl | rfl
    · exact absurd hj (Nat.not_lt_zero _)
    · have hj0 : j = 0 := by have : j < 1 := hj; omega
      subst hj0
      rw [h.at (by decide)]
      rfl
  · cases T with
    | nil => have := hd.1; simp at this; omega
    | cons c R =>
      obtain ⟨h1, h2, h3⟩ := hT c R rfl
      have e := hd.2 0 (by simp)
      rw [Nat.add_zero] at e
      rw [e]
      exact decide_eq_false (fun h8 => ((bl_iff h1).mp h8).elim h2 h3)
theorem tokW {f : RT} {il p : Nat} {B T R : List Nat} (hB : B = [] ∨ B = [32]) (h : Sf f il p (B ++ (T ++ R))) (hT0 : T ≠ []) (hT : ∀ c ∈ T, isL c) (hR : ∀ c R9, R = c :: R9 → c < 1000 ∧ ¬ isL c) : tS f il p = p + B.length ∧ tK f il p = 3 ∧ tE f il p = p + B.length + T.length ∧ Sf f il (p + B.length) (T ++ R) ∧ Sf f il (tE f il p) R := by
  obtain ⟨c0, T9, hT9⟩ : ∃ c T9, T = c :: T9 := by
    cases T with
    | nil => exact absurd rfl hT0
    | cons c T9 => exact ⟨c, T9, rfl⟩
  have hl0 : isL c0 := hT c0 (by rw [hT9]; exact List.mem_cons_self)
  have e1 : tS f il p = p + B.length := ts_eq hB h (fun c R9 he => by
    rw [hT9] at he
    obtain ⟨rfl, -⟩ := List.cons.inj (he : c0 :: (T9 ++ R) = c :: R9)
    have := hl0.1; have := hl0.2; omega)
  have hd := h.drop
  have hd2 := hd.drop
  have h0 : f (p + B.length) = nI c0 := by
    have h9 := hd.at (j := 0) (by rw [hT9]; simp)
    rw [Nat.add_zero, hT9] at h9
    exact h9
  have hlt : p + B.length < il := by
    have h1 := hd.1
    rw [hT9] at h1
    simp at h1
    omega
  have e2 : tK f il p = 3 := by
    unfold tK
    rw [e1, if_neg (by omega), h0, if_pos ((let_iff (by have := hl0.2; omega)).mpr hl0)]
  have e3 : tE f il p = p + B.length + T.length := by
    unfold tE
    rw [e2, if_neg (by decide), if_pos rfl, e1]
    refine run_len T.length (p + B.length) (fun j hj => ?_) (by have := hd2.1; omega) (fun h9 => ?_)
    · rw [hd.at hj]
      have hm : T.getD j 0 ∈ T := by rw [List.getD_eq_getElem?_getD, List.getElem?_eq_getElem hj]; exact List.getElem_mem hj
      have hc := hT _ hm
      exact decide_eq_true ((let_iff (by have := hc.2; omega)).mpr hc)
    · cases R with
      | nil => have := hd2.1; simp at this; omega
      | cons c R9 =>
        obtain ⟨h1, h2⟩ := hR c R9 rfl
        have e := hd2.2 0 (by simp)
        rw [Nat.add_zero] at e
        rw [e]
        exact decide_eq_false (fun h8 => h2 ((let_iff h1).mp h8))
  exact ⟨e1, e2, e3, hd, by rw [e3]; exact hd2⟩
theorem dw_step {f : RT} {j a d : Nat} (hf : f j = nI (48 + d)) (hd : d < 10) (ha : a < 10000) : q_dw f j (nI a) = nI (10 * a + d) := by
  have e : 10 * nI a + f j - 48 = nI (10 * a + d) := by
    rw [hf, show (10 : Int32) = nI 10 from rfl, pk_mul, nI_add, show (48 : Int32) = nI 48 from rfl, pk_sub (by omega)]
    exact congrArg nI (by omega)
  unfold q_dw
  rw [e, if_pos (show nI (10 * a + d) < 1000000 from nI_lt (b := 1000000) (by omega) (by decide))]
theorem dgs_pow {v : Nat} (hv : v ≤ 9999) : v < 10 ^ dgs v := by
  unfold dgs
  split
  · simpa using ‹_›
  · split
    · simpa using ‹_›
    · split
      · simpa using ‹_›
      · show v < 10000
        omega
theorem num_val {f : RT} {s v : Nat} (hv : v ≤ 9999) (h : ∀ i, i < dgs v → f (s + i) = nI ((numL v).getD i 0)) : fo (q_dw f) s (dgs v) 0 = nI v := by
  have g : ∀ m, m ≤ dgs v → fo (q_dw f) s m 0 = nI (v / 10 ^ (dgs v - m)) := by
    intro m
    induction m with
    | zero =>
      intro _
      have := dgs_pow hv
      rw [Nat.sub_zero, Nat.div_eq_of_lt this]
      rfl
    | succ m ih =>
      intro hm
      have hf := h m (by omega)
      rw [numL_get (by omega)] at hf
      have hlt : v / 10 ^ (dgs v - m) < 10000 := Nat.lt_of_le_of_lt (Nat.div_le_self _ _) (by omega)
      rw [fo_back, ih (by omega), dw_step hf (Nat.mod_lt _ (by decide)) hlt]
      refine congrArg nI ?_
      have e1 : dgs v - m = (dgs v - 1 - m) + 1 := by omega
      rw [e1, Nat.pow_succ, ← Nat.div_div_eq_div_mul, show dgs v - (m + 1) = dgs v - 1 - m by omega]
      omega
  have h9 := g (dgs v) (Nat.le_refl _)
  rw [Nat.sub_self, Nat.pow_zero, Nat.div_one] at h9
  exact h9
theorem numL_isD (v : Nat) : ∀ c ∈ numL v, isD c := fun c hc => by
  obtain ⟨i, -, rfl⟩ := List.mem_map.mp hc
  unfold isD
  omega
theorem tokN {f : RT} {il p v : Nat} {B R : List Nat} (hB : B = [] ∨ B = [32]) (hv : v ≤ 9999) (h : Sf f il p (B ++ (numL v ++ R))) (hR : ∀ c R9, R = c :: R9 → c < 1000 ∧ ¬ isD c) : tK f il p = 2 ∧ tW f il p = nI v ∧ Sf f il (tE f il p) R := by
  have hl := numL_len v
  have hd1 := (dgs_le v).1
  obtain ⟨c0, T9, hT9⟩ : ∃ c T9, numL v = c :: T9 := by
    cases hq : numL v with
    | nil => rw [hq] at hl; simp at hl; omega
    | cons c T9 => exact ⟨c, T9, rfl⟩
  have hl0 : isD c0 := numL_isD v c0 (by rw [hT9]; exact List.mem_cons_self)
  have e1 : tS f il p = p + B.length := ts_eq hB h (fun c R9 he => by
    rw [hT9] at he
    obtain ⟨rfl, -⟩ := List.cons.inj (he : c0 :: (T9 ++ R) = c :: R9)
    have := hl0.1; have := hl0.2; omega)
  have hd := h.drop
  have hd2 := hd.drop
  have h0 : f (p + B.length) = nI c0 := by
    have h9 := hd.at (j := 0) (by rw [hl]; omega)
    rw [Nat.add_zero, hT9] at h9
    exact h9
  have hlt : p + B.length < il := by
    have h1 := hd.1
    rw [List.length_append, hl] at h1
    omega
  have hnl : ¬ isL c0 := fun h9 => by have := h9.1; have := hl0.2; omega
  have e2 : tK f il p = 2 := by
    unfold tK
    rw [e1, if_neg (by omega), h0, if_neg (fun h9 => hnl ((let_iff (by have := hl0.2; omega)).mp h9)), if_pos ((dig_iff (by have := hl0.2; omega)).mpr hl0)]
  have e3 : tE f il p = p + B.length + dgs v := by
    unfold tE
    rw [e2, if_neg (by decide), if_neg (by decide), if_pos rfl, e1]
    refine run_len (dgs v) (p + B.length) (fun j hj => ?_) (by have := hd2.1; rw [hl] at this; omega) (fun h9 => ?_)
    · rw [hd.at (by rw [hl]; exact hj)]
      have hj' : j < (numL v).length := by rw [hl]; exact hj
      have hm : (numL v).getD j 0 ∈ numL v := by rw [List.getD_eq_getElem?_getD, List.getElem?_eq_getElem hj']; exact List.getElem_mem hj'
      have hc := numL_isD v _ hm
      exact decide_eq_true ((dig_iff (by have := hc.2; omega)).mpr hc)
    · cases R with
      | nil => have := hd2.1; simp [hl] at this; omega
      | cons c R9 =>
        obtain ⟨h1, h2⟩ := hR c R9 rfl
        have e := hd2.2 0 (by simp)
        rw [Nat.add_zero, hl] at e
        rw [e]
        exact decide_eq_false (fun h8 => h2 ((dig_iff h1).mp h8))
  refine ⟨e2, ?_, by rw [e3, ← hl]; exact hd2⟩
  unfold tW
  rw [if_pos e2, e1, e3, Nat.add_sub_cancel_left]
  exact num_val hv (fun i hi => hd.at (by rw [hl]; exact hi))
theorem tokS {f : RT} {il p : Nat} {R : List Nat} (h : Sf f il p (59 :: R)) : p_semi f il p ∧ Sf f il (tE f il p) R := by
  have e1 : tS f il p = p := ts_eq (B := []) (Or.inl rfl) h (fun c R9 he => by
    obtain ⟨rfl, -⟩ := List.cons.inj he
    omega)
  have h0 : f p = nI 59 := by
    have h9 := h.2 0 (by simp)
    rw [Nat.add_zero] at h9
    exact h9
  have hlt : p < il := by have := h.1; simp at this; omega
  have e2 : tK f il p = 1 := by
    unfold tK
    rw [e1, if_neg (by omega), h0, if_neg (by decide), if_neg (by decide)]
  have e3 : tE f il p = p + 1 := by
    unfold tE
    rw [e2, if_neg (by decide), if_neg (by decide), if_neg (by decide), e1]
  refine ⟨⟨e2, by rw [e1, h0]; rfl⟩, ?_⟩
  rw [e3]
  exact Sf.drop (A := [59]) h
theorem tok0 {f : RT} {il p : Nat} (h : Sf f il p []) : tK f il p = 0 := by
  have e1 : tS f il p = p := ts_eq (B := []) (T := []) (Or.inl rfl) h (fun c R9 he => by cases he)
  unfold tK
  rw [e1, if_pos (by have := h.1; simp at this; omega)]
/-! its statements -/
section STM
variable {f : RT} {il : Nat}
theorem chk_ok {α : Type} {P : Prop} [Decidable P] {w : Int32} {t : PS α} (h0 : t.2.2.1 = 0) (h : P) : p_chk f il P w t = t := by rw [p_chk, if_pos h0, if_pos h]
theorem nxt_ok {α : Type} (S : α) (e : Nat) (z : Int32) : p_nxt f il (S, e, 0, z) = (S, tE f il e, 0, z) := if_pos rfl
/-- a token that is a number within its bounds -/
theorem num_ok {S : CT} {e v : Nat} {z lo hi : Int32} (hk : tK f il (tE f il e) = 2) (hw : tW f il (tE f il e) = nI v) (h1 : ¬ nI v < lo) (h2 : ¬ hi < nI v) : c_num f il (S, e, 0, z) lo hi = (S, tE f il e, 0, z) := by
  unfold c_num
  rw [nxt_ok]
  unfold p_lkG p_tk
  rw [chk_ok (t := (S, tE f il e, (0 : Int32), z)) rfl hk, hw, chk_ok (t := (S, tE f il e, (0 : Int32), z)) rfl ⟨h1, h2⟩]
theorem sem_ok {S : CT} {e : Nat} {z : Int32} (h : p_semi f il (tE f il e)) : c_sem f il (S, e, 0, z) = (S, tE f il e, 0, z) := by
  unfold c_sem
  rw [nxt_ok]
  unfold p_sc
  exact chk_ok (t := (S, tE f il e, (0 : Int32), z)) rfl h
theorem wd_ok {S : CT} {e : Nat} {z : Int32} (h : tK f il (tE f il e) = 3) : c_wd f il (S, e, 0, z) = (S, tE f il e, 0, z) := by
  unfold c_wd
  rw [nxt_ok]
  unfold p_wd
  exact chk_ok (t := (S, tE f il e, (0 : Int32), z)) rfl h
theorem h32 {R : List Nat} : ∀ c R9, (32 :: R) = c :: R9 → c < 1000 ∧ ¬ isL c := fun c R9 h => by
  obtain ⟨rfl, -⟩ := List.cons.inj h
  exact ⟨by decide, fun h9 => by have := h9.1; omega⟩
theorem d32 {R : List Nat} : ∀ c R9, (32 :: R) = c :: R9 → c < 1000 ∧ ¬ isD c := fun c R9 h => by
  obtain ⟨rfl, -⟩ := List.cons.inj h
  exact ⟨by decide, fun h9 => by have := h9.1; omega⟩
theorem d59 {R : List Nat} : ∀ c R9, (59 :: R) = c :: R9 → c < 1000 ∧ ¬ isD c := fun c R9 h => by
  obtain ⟨rfl, -⟩ := List.cons.inj h
  exact ⟨by decide, fun h9 => by have := h9.2; omega⟩
/-- a name of one letter -/
theorem nm_1 {p c : Nat} {R : List Nat} (h : Sf f il p (32 :: ([c] ++ (32 :: R)))) (hc : isL c) : tK f il p = 3 ∧ b_nm f il (tS f il p) (tE f il p) = nI c ∧ Sf f il (tE f il p) (32 :: R) := by
  obtain ⟨e1, e2, e3, e4, e5⟩ := tokW (B := [32]) (T := [c]) (Or.inr rfl) h (by simp) (fun x hx => by rw [List.mem_singleton.mp hx]; exact hc) h32
  have h0 : f (p + 1) = nI c := by
    have h9 := e4.at (j := 0) (by simp)
    exact h9
  have hlt : p + 1 < il := by have := e4.1; simp at this; omega
  refine ⟨e2, ?_, e5⟩
  unfold b_nm
  rw [e1, e3, show p + [32].length + [c].length - (p + [32].length) = 1 from Nat.add_sub_cancel_left _ _, if_pos (by decide)]
  show (if q_let (q_at f il (p + 1)) then (0 : Int32) <<< (8 &&& 31) ||| q_at f il (p + 1) else 0) = nI c
  have ea : q_at f il (p + 1) = nI c := by rw [q_at, if_pos hlt, h0]
  have hc9 := hc.2
  rw [ea, if_pos ((let_iff (by omega)).mpr hc)]
  have h9 := shl_or (A := 0) (c := c) (by omega) (by omega)
  rw [Nat.zero_mul, Nat.zero_add] at h9
  exact h9
theorem word_is {p i : Nat} {T R : List Nat} (h : Sf f il p (T ++ (32 :: R))) (hT0 : T ≠ []) (hT : ∀ c ∈ T, isL c) (hn : SKn.getD i 0 = T.length) (hs : ∀ j, j < T.length → sk_ch i j = nI (T.getD j 0)) : tIs f il p i ∧ Sf f il (tE f il p) (32 :: R) := by
  obtain ⟨e1, e2, e3, e4, e5⟩ := tokW (B := []) (T := T) (Or.inl rfl) h hT0 hT h32
  refine ⟨⟨e2, ?_, fun j hj => ?_⟩, e5⟩
  · unfold tL
    rw [if_pos e2, e3, e1, Nat.add_sub_cancel_left, hn]
  · rw [hn] at hj
    rw [hs j hj, e1]
    exact e4.at hj
theorem word_not {p i : Nat} {T R : List Nat} (h : Sf f il p (T ++ (32 :: R))) (hT0 : T ≠ []) (hT : ∀ c ∈ T, isL c) (hn : SKn.getD i 0 ≠ T.length) : ¬ tIs f il p i := by
  obtain ⟨e1, e2, e3, e4, e5⟩ := tokW (B := []) (T := T) (Or.inl rfl) h hT0 hT h32
  intro h9
  have h8 := h9.2.1
  unfold tL at h8
  rw [if_pos e2, e3, e1, Nat.add_sub_cancel_left] at h8
  exact hn h8.symm
theorem num_none {g : Nat → Int32} {x : Int32} : ∀ n i, (∀ j, i ≤ j → j < i + n → ¬ g j = x) → fnd (fun i => decide (g i = x)) i n = -1
  | 0, _, _ => rfl
  | n + 1, i, h => by
    have e := fnd_step (p := fun i => decide (g i = x)) (i := i) (n := i + (n + 1)) (by omega) (decide_eq_false (h i (Nat.le_refl _) (by omega)))
    rw [show i + (n + 1) - i = n + 1 by omega, show i + (n + 1) - (i + 1) = n by omega] at e
    rw [e]
    exact num_none n (i + 1) (fun j h1 h2 => h j (by omega) (by omega))
theorem num_at {g : Nat → Int32} {x : Int32} {k : Nat} (hk : g k = x) : ∀ n i, i ≤ k → k < i + n → (∀ j, i ≤ j → j < k → ¬ g j = x) → fnd (fun i => decide (g i = x)) i n = nI k
  | 0, _, h1, h2, _ => absurd h2 (by omega)
  | n + 1, i, h1, h2, h => by
    by_cases hik : i = k
    · subst hik
      have e := fnd_hit (p := fun i => decide (g i = x)) (i := i) (n := i + (n + 1)) (by omega) (decide_eq_true hk)
      rw [show i + (n + 1) - i = n + 1 by omega] at e
      exact e
    · have e := fnd_step (p := fun i => decide (g i = x)) (i := i) (n := i + (n + 1)) (by omega) (decide_eq_false (h i (Nat.le_refl _) (by omega)))
      rw [show i + (n + 1) - i = n + 1 by omega, show i + (n + 1) - (i + 1) = n by omega] at e
      rw [e]
      exact num_at hk n (i + 1) (by omega) (by omega) (fun j h3 h4 => h j (by omega) h4)
def wVil : List Nat := [118, 105, 108, 108, 97, 103, 101]
def wFair : List Nat := [102, 97, 105, 114]
def wAlm : List Nat := [97, 108, 109, 97, 110, 97, 99]
theorem isL_of {T : List Nat} (h : T.all (fun c => decide (97 ≤ c) && decide (c ≤ 122)) = true) : ∀ c ∈ T, isL c := fun c hc => by
  have h9 := List.all_eq_true.mp h c hc
  simp only [Bool.and_eq_true, decide_eq_true_eq] at h9
  exact h9
/-- a village's statement -/
theorem st_vil {S : CT} {e c pe tr : Nat} {z : Int32} {R : List Nat} (h : Sf f il e (wVil ++ (32 :: ([c] ++ (32 :: (numL pe ++ (32 :: (numL tr ++ (59 :: R))))))))) (hc : isL c) (hpe : 1 ≤ pe ∧ pe ≤ 99) (htr : tr ≤ 100) (h9 : S 16 9 < 6) (hfree : c_free S (nI c)) : ∃ e', p_nxt f il (c_st f il (S, e, 0, z)) = (s_vadd S (nI c) (nI pe) (nI tr) (vcO S), e', 0, z) ∧ Sf f il e' R ∧ ¬ tK f il e = 0 := by
  obtain ⟨w2, s1⟩ := word_is (i := 2) h (by decide) (isL_of (by decide)) rfl (by decide +kernel)
  obtain ⟨k1, n1, s2⟩ := nm_1 s1 hc
  obtain ⟨k2, v2, s3⟩ := tokN (B := [32]) (Or.inr rfl) (by omega) (show Sf f il (tE f il (tE f il e)) ([32] ++ (numL pe ++ (32 :: (numL tr ++ (59 :: R))))) from s2) d32
  obtain ⟨k3, v3, s4⟩ := tokN (B := [32]) (Or.inr rfl) (by omega) (show Sf f il (tE f il (tE f il (tE f il e))) ([32] ++ (numL tr ++ (59 :: R))) from s3) d59
  obtain ⟨k4, s5⟩ := tokS s4
  have hcne : ¬ nI c = 0 := nI_ne0 (by have := hc.1; omega) (by have := hc.2; omega)
  have a1 : c_v1 f il (S, e, 0, z) = (S, e, 0, z) := chk_ok (t := (S, e, (0 : Int32), z)) rfl h9
  have a2 : c_v2 f il (S, e, 0, z) = (S, tE f il e, 0, z) := by
    unfold c_v2
    rw [a1]
    unfold c_nn
    have b1 : c_nn2 f il (S, e, 0, z) = (S, tE f il e, 0, z) := by
      unfold c_nn2
      rw [wd_ok k1]
      refine chk_ok (t := (S, tE f il e, (0 : Int32), z)) rfl ?_
      show ¬ b_nm f il (tS f il (tE f il e)) (tE f il (tE f il e)) = 0
      rw [n1]
      exact hcne
    rw [b1]
    refine chk_ok (t := (S, tE f il e, (0 : Int32), z)) rfl ?_
    show c_free S (b_nm f il (tS f il (tE f il e)) (tE f il (tE f il e)))
    rw [n1]
    exact hfree
  have a3 : c_v3 f il (S, e, 0, z) = (S, tE f il (tE f il e), 0, z) := by
    unfold c_v3
    rw [a2]
    exact num_ok k2 v2 (nI_nlt (b := 1) hpe.1 (by omega)) (nI_nlt (a := 99) hpe.2 (by decide))
  have a4 : c_v4 f il (S, e, 0, z) = (S, tE f il (tE f il (tE f il e)), 0, z) := by
    unfold c_v4
    rw [a3]
    exact num_ok k3 v3 (nI_pos (by omega)) (nI_nlt (a := 100) htr (by decide))
  have a5 : c_v5 f il (S, e, 0, z) = (S, tE f il (tE f il (tE f il (tE f il e))), 0, z) := by
    unfold c_v5
    rw [a4]
    exact sem_ok k4
  refine ⟨tE f il (tE f il (tE f il (tE f il (tE f il e)))), ?_, s5, fun h8 => absurd (w2.1.symm.trans h8) (by decide)⟩
  have a6 : c_st f il (S, e, 0, z) = (s_vadd S (nI c) (nI pe) (nI tr) (vcO S), tE f il (tE f il (tE f il (tE f il e))), 0, z) := by
    unfold c_st
    rw [if_pos w2]
    unfold c_rv
    rw [a5, if_pos rfl, a2, a3, a4]
    show (s_vadd S (b_nm f il (tS f il (tE f il e)) (tE f il (tE f il e))) (tW f il (tE f il (tE f il e))) (tW f il (tE f il (tE f il (tE f il e)))) (vcO S), _) = _
    rw [n1, v2, v3]
  rw [a6]
  exact nxt_ok _ _ _
/-- a fair's statement -/
theorem st_fair {S : CT} {e c d pl pe so pr : Nat} {z : Int32} {R : List Nat} (h : Sf f il e (wFair ++ (32 :: ([c] ++ (32 :: ([d] ++ (32 :: (numL pe ++ (32 :: (numL so ++ (32 :: (numL pr ++ (59 :: R))))))))))))) (hc : isL c) (hd : isL d) (hpe : 1 ≤ pe ∧ pe ≤ 12) (hso : 1 ≤ so ∧ so ≤ 99) (hpr : 1 ≤ pr ∧ pr ≤ 20) (h10 : S 16 10 < 6) (hfree : c_free S (nI c)) (hpl : s_num (S 0) (nI d) (vcO S) = nI pl) (hpl9 : pl < 100) : ∃ e', p_nxt f il (c_st f il (S, e, 0, z)) = (s_fadd S (nI c) (nI pl) (nI pe) (nI so) (nI pr) (fcO S), e', 0, z) ∧ Sf f il e' R ∧ ¬ tK f il e = 0 := by
  have w2 : ¬ tIs f il e 2 := word_not h (by decide) (isL_of (by decide)) (by decide)
  obtain ⟨w3, s1⟩ := word_is (i := 3) h (by decide) (isL_of (by decide)) rfl (by decide +kernel)
  obtain ⟨k1, n1, s2⟩ := nm_1 s1 hc
  obtain ⟨k9, n9, s9⟩ := nm_1 s2 hd
  obtain ⟨k2, v2, s3⟩ := tokN (B := [32]) (Or.inr rfl) (by omega) (show Sf f il (tE f il (tE f il (tE f il e))) ([32] ++ (numL pe ++ (32 :: (numL so ++ (32 :: (numL pr ++ (59 :: R))))))) from s9) d32
  obtain ⟨k3, v3, s4⟩ := tokN (B := [32]) (Or.inr rfl) (by omega) (show Sf f il (tE f il (tE f il (tE f il (tE f il e)))) ([32] ++ (numL so ++ (32 :: (numL pr ++ (59 :: R))))) from s3) d32
  obtain ⟨k5, v5, s6⟩ := tokN (B := [32]) (Or.inr rfl) (by omega) (show Sf f il (tE f il (tE f il (tE f il (tE f il (tE f il e))))) ([32] ++ (numL pr ++ (59 :: R))) from s4) d59
  obtain ⟨k4, s5⟩ := tokS s6
  have hcne : ¬ nI c = 0 := nI_ne0 (by have := hc.1; omega) (by have := hc.2; omega)
  have a1 : c_f1 f il (S, e, 0, z) = (S, e, 0, z) := chk_ok (t := (S, e, (0 : Int32), z)) rfl h10
  have a2 : c_f2 f il (S, e, 0, z) = (S, tE f il e, 0, z) := by
    unfold c_f2
    rw [a1]
    unfold c_nn
    have b1 : c_nn2 f il (S, e, 0, z) = (S, tE f il e, 0, z) := by
      unfold c_nn2
      rw [wd_ok k1]
      refine chk_ok (t := (S, tE f il e, (0 : Int32), z)) rfl ?_
      show ¬ b_nm f il (tS f il (tE f il e)) (tE f il (tE f il e)) = 0
      rw [n1]
      exact hcne
    rw [b1]
    refine chk_ok (t := (S, tE f il e, (0 : Int32), z)) rfl ?_
    show c_free S (b_nm f il (tS f il (tE f il e)) (tE f il (tE f il e)))
    rw [n1]
    exact hfree
  have ev : c_kvV f il (S, tE f il (tE f il e), 0, z) = nI pl := by
    show s_num (S 0) (b_nm f il (tS f il (tE f il (tE f il e))) (tE f il (tE f il (tE f il e)))) (vcO S) = _
    rw [n9]
    exact hpl
  have a3 : c_f3 f il (S, e, 0, z) = (S, tE f il (tE f il e), 0, z) := by
    unfold c_f3
    rw [a2]
    unfold c_kv
    rw [wd_ok k9]
    refine chk_ok (t := (S, tE f il (tE f il e), (0 : Int32), z)) rfl ?_
    rw [ev]
    exact nI_ne_m1 (by omega)
  have a4 : c_f4 f il (S, e, 0, z) = (S, tE f il (tE f il (tE f il e)), 0, z) := by
    unfold c_f4
    rw [a3]
    exact num_ok k2 v2 (nI_nlt (b := 1) hpe.1 (by omega)) (nI_nlt (a := 12) hpe.2 (by decide))
  have a5 : c_f5 f il (S, e, 0, z) = (S, tE f il (tE f il (tE f il (tE f il e))), 0, z) := by
    unfold c_f5
    rw [a4]
    exact num_ok k3 v3 (nI_nlt (b := 1) hso.1 (by omega)) (nI_nlt (a := 99) hso.2 (by decide))
  have a6 : c_f6 f il (S, e, 0, z) = (S, tE f il (tE f il (tE f il (tE f il (tE f il e)))), 0, z) := by
    unfold c_f6
    rw [a5]
    exact num_ok k5 v5 (nI_nlt (b := 1) hpr.1 (by omega)) (nI_nlt (a := 20) hpr.2 (by decide))
  have a7 : c_f7 f il (S, e, 0, z) = (S, tE f il (tE f il (tE f il (tE f il (tE f il (tE f il e))))), 0, z) := by
    unfold c_f7
    rw [a6]
    exact sem_ok k4
  refine ⟨tE f il (tE f il (tE f il (tE f il (tE f il (tE f il (tE f il e)))))), ?_, s5, fun h8 => absurd (w3.1.symm.trans h8) (by decide)⟩
  have a8 : c_st f il (S, e, 0, z) = (s_fadd S (nI c) (nI pl) (nI pe) (nI so) (nI pr) (fcO S), tE f il (tE f il (tE f il (tE f il (tE f il (tE f il e))))), 0, z) := by
    unfold c_st
    rw [if_neg w2, if_pos w3]
    unfold c_rf
    rw [a7, if_pos rfl, a2, a3, a4, a5, a6, ev]
    show (s_fadd S (b_nm f il (tS f il (tE f il e)) (tE f il (tE f il e))) (nI pl) (tW f il (tE f il (tE f il (tE f il e)))) (tW f il (tE f il (tE f il (tE f il (tE f il e))))) (tW f il (tE f il (tE f il (tE f il (tE f il (tE f il e)))))) (fcO S), _) = _
    rw [n1, v2, v3, v5]
  rw [a8]
  exact nxt_ok _ _ _
/-- the head -/
theorem st_head {S : CT} {sd o0 o1 o2 : Nat} {R : List Nat} (h : Sf f il 0 (wAlm ++ (32 :: (numL sd ++ (32 :: (numL o0 ++ (32 :: (numL o1 ++ (32 :: (numL o2 ++ (59 :: R))))))))))) (hsd : sd ≤ 1023) (h0 : o0 ≤ 20) (h1 : o1 ≤ 20) (h2 : o2 ≤ 20) (hs : 0 < o0 + o1 + o2) : ∃ e', p_nxt f il (c_al f il S) = (us (us (us (us S 16 11 (nI sd)) 8 0 (nI o0)) 8 1 (nI o1)) 8 2 (nI o2), e', 0, -1) ∧ Sf f il e' R := by
  obtain ⟨w1, s1⟩ := word_is (i := 1) h (by decide) (isL_of (by decide)) rfl (by decide +kernel)
  obtain ⟨k1, v1, s2⟩ := tokN (B := [32]) (Or.inr rfl) (by omega) (show Sf f il (tE f il 0) ([32] ++ (numL sd ++ (32 :: (numL o0 ++ (32 :: (numL o1 ++ (32 :: (numL o2 ++ (59 :: R))))))))) from s1) d32
  obtain ⟨k2, v2, s3⟩ := tokN (B := [32]) (Or.inr rfl) (by omega) (show Sf f il (tE f il (tE f il 0)) ([32] ++ (numL o0 ++ (32 :: (numL o1 ++ (32 :: (numL o2 ++ (59 :: R))))))) from s2) d32
  obtain ⟨k3, v3, s4⟩ := tokN (B := [32]) (Or.inr rfl) (by omega) (show Sf f il (tE f il (tE f il (tE f il 0))) ([32] ++ (numL o1 ++ (32 :: (numL o2 ++ (59 :: R))))) from s3) d32
  obtain ⟨k4, v4, s5⟩ := tokN (B := [32]) (Or.inr rfl) (by omega) (show Sf f il (tE f il (tE f il (tE f il (tE f il 0)))) ([32] ++ (numL o2 ++ (59 :: R))) from s4) d59
  obtain ⟨k5, s6⟩ := tokS s5
  have a0 : c_a0 f il S = (S, 0, 0, -1) := chk_ok (t := (S, 0, (0 : Int32), (-1 : Int32))) rfl w1
  have a1 : c_a1 f il S = (us S 16 11 (nI sd), tE f il 0, 0, -1) := by
    unfold c_a1
    rw [a0, num_ok (lo := 0) (hi := 1023) k1 v1 (nI_pos (by omega)) (nI_nlt (a := 1023) hsd (by decide))]
    show (us S 16 11 (tW f il (tE f il 0)), _) = _
    rw [v1]
  have a2 : c_a2 f il S = (us (us S 16 11 (nI sd)) 8 0 (nI o0), tE f il (tE f il 0), 0, -1) := by
    unfold c_a2
    rw [a1, num_ok (lo := 0) (hi := 20) k2 v2 (nI_pos (by omega)) (nI_nlt (a := 20) h0 (by decide))]
    show (us _ 8 0 (tW f il (tE f il (tE f il 0))), _) = _
    rw [v2]
  have a3 : c_a3 f il S = (us (us (us S 16 11 (nI sd)) 8 0 (nI o0)) 8 1 (nI o1), tE f il (tE f il (tE f il 0)), 0, -1) := by
    unfold c_a3
    rw [a2, num_ok (lo := 0) (hi := 20) k3 v3 (nI_pos (by omega)) (nI_nlt (a := 20) h1 (by decide))]
    show (us _ 8 1 (tW f il (tE f il (tE f il (tE f il 0)))), _) = _
    rw [v3]
  have a4 : c_a4 f il S = (us (us (us (us S 16 11 (nI sd)) 8 0 (nI o0)) 8 1 (nI o1)) 8 2 (nI o2), tE f il (tE f il (tE f il (tE f il 0))), 0, -1) := by
    unfold c_a4
    rw [a3, num_ok (lo := 0) (hi := 20) k4 v4 (nI_pos (by omega)) (nI_nlt (a := 20) h2 (by decide))]
    show (us _ 8 2 (tW f il (tE f il (tE f il (tE f il (tE f il 0))))), _) = _
    rw [v4]
  have a5 : c_a5 f il S = c_a4 f il S := by
    unfold c_a5
    rw [a4]
    refine chk_ok (t := (_, _, (0 : Int32), (-1 : Int32))) rfl ?_
    show ¬ nI o0 + nI o1 + nI o2 = 0
    rw [nI_add, nI_add]
    exact nI_ne0 hs (by omega)
  refine ⟨tE f il (tE f il (tE f il (tE f il (tE f il (tE f il 0))))), ?_, s6⟩
  have a6 : c_al f il S = (us (us (us (us S 16 11 (nI sd)) 8 0 (nI o0)) 8 1 (nI o1)) 8 2 (nI o2), tE f il (tE f il (tE f il (tE f il (tE f il 0)))), 0, -1) := by
    unfold c_al
    rw [a5, a4]
    exact sem_ok k5
  rw [a6]
  exact nxt_ok _ _ _
end STM
theorem text_eq (G : gT) : textL G = (wAlm ++ (32 :: (numL (scN G 0 % 1024) ++ (32 :: (numL (oddsN G 0) ++ (32 :: (numL (oddsN G 1) ++ (32 :: (numL (oddsN G 2) ++ (59 :: (wVil ++ (32 :: ([97 + 0] ++ (32 :: (numL (peopleN G 0) ++ (32 :: (numL (trustN G 0) ++ (59 :: (wVil ++ (32 :: ([97 + 1] ++ (32 :: (numL (peopleN G 1) ++ (32 :: (numL (trustN G 1) ++ (59 :: (wVil ++ (32 :: ([97 + 2] ++ (32 :: (numL (peopleN G 2) ++ (32 :: (numL (trustN G 2) ++ (59 :: (wFair ++ (32 :: ([112 + 0] ++ (32 :: ([97 + placeN G 0] ++ (32 :: (numL (periodN G 0) ++ (32 :: (numL (stockN G 0) ++ (32 :: (numL (priceN G 0) ++ (59 :: (wFair ++ (32 :: ([112 + 1] ++ (32 :: ([97 + placeN G 1] ++ (32 :: (numL (periodN G 1) ++ (32 :: (numL (stockN G 1) ++ (32 :: (numL (priceN G 1) ++ (59 :: [])))))))))))))))))))))))))))))))))))))))))))))))))))))))))) := by
  have e10 : kL 10 = [97, 108, 109, 97, 110, 97, 99, 32] := rfl
  have e11 : kL (10 + 1) = [118, 105, 108, 108, 97, 103, 101, 32] := rfl
  have e12 : kL (10 + 2) = [102, 97, 105, 114, 32] := rfl
  simp only [textL, fairL, vilL, headL, e10, e11, e12, wAlm, wVil, wFair, List.append_assoc, List.cons_append, List.nil_append]
theorem lp_go {f : RT} {il n : Nat} {S S2 : CT} {e e2 : Nat} {z : Int32} (hk : ¬ tK f il e = 0) (h : p_nxt f il (c_st f il (S, e, 0, z)) = (S2, e2, 0, z)) : c_lp f il (n + 1) (S, e, 0, z) = c_lp f il n (S2, e2, 0, z) := by
  show (if (0 : Int32) = 0 ∧ ¬ tK f il e = 0 then c_lp f il n (p_nxt f il (c_st f il (S, e, 0, z))) else (S, e, 0, z)) = _
  rw [if_pos ⟨rfl, hk⟩, h]
theorem lp_end {f : RT} {il n : Nat} {S : CT} {e : Nat} {z : Int32} (hk : tK f il e = 0) : c_lp f il (n + 1) (S, e, 0, z) = (S, e, 0, z) := if_neg (fun h => h.2 hk)
theorem ne_l {a b : Nat} (ha : a < 1000) (hb : b < 1000) (h : a ≠ b) : ¬ nI a = nI b := fun h9 => h (nI_ij (by omega) (by omega) h9)
/-- the contents after the text -/
def pA (G : gT) : CT := us (us (us (us (s_clear Z0) 16 11 (nI (scN G 0 % 1024))) 8 0 (nI (oddsN G 0))) 8 1 (nI (oddsN G 1))) 8 2 (nI (oddsN G 2))
def pV (G : gT) : Nat → CT
  | 0 => pA G
  | k + 1 => s_vadd (pV G k) (nI (97 + k)) (nI (peopleN G k)) (nI (trustN G k)) k
def pF (G : gT) : Nat → CT
  | 0 => pV G 3
  | k + 1 => s_fadd (pF G k) (nI (112 + k)) (nI (placeN G k)) (nI (periodN G k)) (nI (stockN G k)) (nI (priceN G k)) k
theorem pV_names (G : gT) : ∀ k j, j < k → pV G k 0 j = nI (97 + j)
  | 0, j, h => absurd h (Nat.not_lt_zero _)
  | k + 1, j, hj => by
    show upd (pV G k 0) k (nI (97 + k)) j = _
    by_cases hjk : j = k
    · subst hjk; exact if_pos rfl
    · exact (if_neg hjk : upd (pV G k 0) k (nI (97 + k)) j = pV G k 0 j).trans (pV_names G k j (by omega))
theorem pF_0 (G : gT) : ∀ k, pF G k 0 = pV G 3 0
  | 0 => rfl
  | k + 1 => pF_0 G k
theorem pF_names (G : gT) : ∀ k j, j < k → pF G k 3 j = nI (112 + j)
  | 0, j, h => absurd h (Nat.not_lt_zero _)
  | k + 1, j, hj => by
    show upd (pF G k 3) k (nI (112 + k)) j = _
    by_cases hjk : j = k
    · subst hjk; exact if_pos rfl
    · exact (if_neg hjk : upd (pF G k 3) k (nI (112 + k)) j = pF G k 3 j).trans (pF_names G k j (by omega))
theorem free_V (G : gT) {k : Nat} (hk : k < 3) (hv : vcO (pV G k) = k) (hf : fcO (pV G k) = 0) : c_free (pV G k) (nI (97 + k)) := by
  refine ⟨?_, ?_⟩
  · rw [hv]
    exact num_none k 0 (fun j h1 h2 => by rw [pV_names G k j (by omega)]; exact ne_l (by omega) (by omega) (by omega))
  · rw [hf]
    rfl
theorem free_F (G : gT) {k : Nat} (hk : k < 2) (hv : vcO (pF G k) = 3) (hf : fcO (pF G k) = k) : c_free (pF G k) (nI (112 + k)) := by
  refine ⟨?_, ?_⟩
  · rw [hv, pF_0]
    exact num_none 3 0 (fun j h1 h2 => by rw [pV_names G 3 j (by omega)]; exact ne_l (by omega) (by omega) (by omega))
  · rw [hf]
    exact num_none k 0 (fun j h1 h2 => by rw [pF_names G k j (by omega)]; exact ne_l (by omega) (by omega) (by omega))
theorem vil_F (G : gT) {k d : Nat} (hd : d < 3) (hv : vcO (pF G k) = 3) : s_num (pF G k 0) (nI (97 + d)) (vcO (pF G k)) = nI d := by
  rw [hv, pF_0]
  exact num_at (pV_names G 3 d hd) 3 0 (by omega) (by omega) (fun j h1 h2 => by rw [pV_names G 3 j (by omega)]; exact ne_l (by omega) (by omega) (by omega))
theorem isl97 {k : Nat} (h : k < 3) : isL (97 + k) := ⟨by omega, by omega⟩
theorem isl112 {k : Nat} (h : k < 2) : isL (112 + k) := ⟨by omega, by omega⟩
theorem parse_tx {G : gT} {f : RT} {il : Nat} (h : Sf f il 0 (textL G)) : ∃ e, c_txt f il (s_clear Z0) = (pF G 2, e, 0, -1) := by
  rw [text_eq] at h
  have o2 : 1 ≤ oddsN G 2 := by show 1 ≤ 1 + scN G 1 % 20; omega
  have hpl : ∀ k, placeN G k < 3 := fun k => by have := placeN_le G k; omega
  have hpp : ∀ k, 1 ≤ peopleN G k ∧ peopleN G k ≤ 99 := fun k => ⟨by unfold peopleN; omega, peopleN_le G k⟩
  have hpe : ∀ k, 1 ≤ periodN G k ∧ periodN G k ≤ 12 := fun k => ⟨by unfold periodN; omega, periodN_le G k⟩
  have hso : ∀ k, 1 ≤ stockN G k ∧ stockN G k ≤ 99 := fun k => ⟨by unfold stockN; omega, by have := stockN_le G k; omega⟩
  have hpr : ∀ k, 1 ≤ priceN G k ∧ priceN G k ≤ 20 := fun k => ⟨by unfold priceN; omega, priceN_le G k⟩
  have v0 : vcO (pV G 0) = 0 := rfl
  have v1 : vcO (pV G 1) = 1 := rfl
  have v2 : vcO (pV G 2) = 2 := rfl
  have w0 : vcO (pF G 0) = 3 := rfl
  have w1 : vcO (pF G 1) = 3 := rfl
  have f0 : fcO (pF G 0) = 0 := rfl
  have f1 : fcO (pF G 1) = 1 := rfl
  obtain ⟨e1, a1, s1⟩ := st_head (S := s_clear Z0) h (by omega) (oddsN_le G 0) (oddsN_le G 1) (oddsN_le G 2) (by omega)
  obtain ⟨e2, a2, s2, k2⟩ := st_vil (S := pV G 0) (z := -1) s1 (isl97 (by decide)) (hpp 0) (trustN_le G 0) (by show (0 : Int32) < 6; decide) (free_V G (by decide) v0 rfl)
  obtain ⟨e3, a3, s3, k3⟩ := st_vil (S := pV G 1) (z := -1) s2 (isl97 (by decide)) (hpp 1) (trustN_le G 1) (by show nI 1 < 6; decide) (free_V G (by decide) v1 rfl)
  obtain ⟨e4, a4, s4, k4⟩ := st_vil (S := pV G 2) (z := -1) s3 (isl97 (by decide)) (hpp 2) (trustN_le G 2) (by show nI 2 < 6; decide) (free_V G (by decide) v2 rfl)
  obtain ⟨e5, a5, s5, k5⟩ := st_fair (S := pF G 0) (z := -1) s4 (isl112 (by decide)) (isl97 (hpl 0)) (hpe 0) (hso 0) (hpr 0) (by show (0 : Int32) < 6; decide) (free_F G (by decide) w0 f0) (vil_F G (hpl 0) w0) (by have := hpl 0; omega)
  obtain ⟨e6, a6, s6, k6⟩ := st_fair (S := pF G 1) (z := -1) s5 (isl112 (by decide)) (isl97 (hpl 1)) (hpe 1) (hso 1) (hpr 1) (by show nI 1 < 6; decide) (free_F G (by decide) w1 f1) (vil_F G (hpl 1) w1) (by have := hpl 1; omega)
  rw [v0] at a2
  rw [v1] at a3
  rw [v2] at a4
  rw [f0] at a5
  rw [f1] at a6
  refine ⟨e6, ?_⟩
  unfold c_txt
  rw [a1]
  show c_lp f il (594 + 1 + 1 + 1 + 1 + 1 + 1) (pV G 0, e1, 0, -1) = _
  rw [lp_go k2 a2]
  show c_lp f il (594 + 1 + 1 + 1 + 1 + 1) (pV G 1, e2, 0, -1) = _
  rw [lp_go k3 a3]
  show c_lp f il (594 + 1 + 1 + 1 + 1) (pV G 2, e3, 0, -1) = _
  rw [lp_go k4 a4]
  show c_lp f il (594 + 1 + 1 + 1) (pF G 0, e4, 0, -1) = _
  rw [lp_go k5 a5]
  show c_lp f il (594 + 1 + 1) (pF G 1, e5, 0, -1) = _
  rw [lp_go k6 a6]
  exact lp_end (tok0 s6)
theorem c3 {P : Nat → Prop} (h0 : P 0) (h1 : P 1) (h2 : P 2) : ∀ k, k < 3 → P k := fun k hk => by
  have h : k = 0 ∨ k = 1 ∨ k = 2 := by omega
  rcases h with rfl | rfl | rfl
  · exact h0
  · exact h1
  · exact h2
theorem c2 {P : Nat → Prop} (h0 : P 0) (h1 : P 1) : ∀ k, k < 2 → P k := fun k hk => by
  have h : k = 0 ∨ k = 1 := by omega
  rcases h with rfl | rfl
  · exact h0
  · exact h1
theorem pF_he (G : gT) : HE 0 0 (hSi G) (pF G 2) := ⟨c3 ⟨rfl, rfl, rfl, rfl⟩ ⟨rfl, rfl, rfl, rfl⟩ ⟨rfl, rfl, rfl, rfl⟩, c2 ⟨rfl, rfl, rfl, rfl⟩ ⟨rfl, rfl, rfl, rfl⟩, fun j hj => absurd hj (Nat.not_lt_zero _), fun j hj => absurd hj (Nat.not_lt_zero _), rfl, rfl, rfl, rfl, rfl, rfl⟩
theorem pF_lq (G : gT) : LQ 0 (pF G 2) := by
  have o2 : 1 ≤ oddsN G 2 := by show 1 ≤ 1 + scN G 1 % 20; omega
  have l0 := oddsN_le G 0
  have l1 := oddsN_le G 1
  have l2 := oddsN_le G 2
  have eb : bcO (pF G 2) = 0 := rfl
  have em : mcO (pF G 2) = 0 := rfl
  have hpp : ∀ k, 1 ≤ peopleN G k := fun k => by unfold peopleN; omega
  have hpe : ∀ k, 1 ≤ periodN G k := fun k => by unfold periodN; omega
  have hpl : ∀ k, placeN G k < 3 := fun k => by have := placeN_le G k; omega
  refine ⟨?_, ⟨0, rfl, by omega⟩, ?_⟩
  · rw [eb, em]
    refine ⟨⟨rfl, by decide⟩, ⟨rfl, by decide⟩, ⟨rfl, rfl⟩, fun k hk => absurd hk (Nat.not_lt_zero _), c3 ⟨_, _, _, hpp 0, peopleN_le G 0, trustN_le G 0, oddsN_le G 0, rfl, rfl, rfl⟩ ⟨_, _, _, hpp 1, peopleN_le G 1, trustN_le G 1, oddsN_le G 1, rfl, rfl, rfl⟩ ⟨_, _, _, hpp 2, peopleN_le G 2, trustN_le G 2, oddsN_le G 2, rfl, rfl, rfl⟩, ?_, c2 ⟨_, _, _, hpl 0, hpe 0, periodN_le G 0, stockN_le G 0, rfl, rfl, rfl⟩ ⟨_, _, _, hpl 1, hpe 1, periodN_le G 1, stockN_le G 1, rfl, rfl, rfl⟩, ⟨scN G 0 % 1024, Nat.mod_lt _ (by decide), rfl⟩, ⟨0, by decide, rfl⟩⟩
    show ¬ nI (oddsN G 0) + nI (oddsN G 1) + nI (oddsN G 2) = 0
    rw [nI_add, nI_add]
    exact nI_ne0 (by omega) (by omega)
  · unfold CO
    rw [eb]
    refine ⟨?_, ?_, fun k hk => absurd hk (Nat.not_lt_zero _)⟩
    · show (0 : Int32) - 0 - 0 = 0
      decide
    · show (0 : Int32) - 0 - 0 = 0
      decide
theorem parse_ok' {G : gT} {q : RT × Nat} (h1 : q.2 = (textL G).length) (h2 : ∀ j, j < q.2 → q.1 j &&& 255 = nI ((textL G).getD j 0)) : (ztx (zIn z0 q)).2.2.1 = 0 ∧ HE 0 0 (hSi G) (ztx (zIn z0 q)).1 ∧ LQ 0 (ztx (zIn z0 q)).1 ∧ (ztx (zIn z0 q)).1 16 11 = nI (scN G 0 % 1024) ∧ (ztx (zIn z0 q)).1 16 12 = 0 ∧ (ztx (zIn z0 q)).1 16 13 = 0 := by
  have hS : Sf (zfi (zIn z0 q)) q.2 0 (textL G) := ⟨by rw [h1, Nat.zero_add], fun j hj => by rw [Nat.zero_add]; exact h2 j (by omega)⟩
  obtain ⟨e, he⟩ := parse_tx hS
  have ht : ztx (zIn z0 q) = (pF G 2, e, 0, -1) := he
  rw [ht]
  exact ⟨rfl, pF_he G, pF_lq G, rfl, rfl, rfl⟩

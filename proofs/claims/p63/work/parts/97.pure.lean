/-! PURE: what the Hand's walks still owe -/
theorem clamp_lo {x : Int32} (h : x ≤ 100) : clampT x = if 0 < x then x else 0 := by
  unfold clampT
  by_cases h0 : 0 < x
  · rw [if_pos (Int32.le_of_lt h0), if_pos h, if_pos h0]
  · rw [if_neg h0]
    by_cases h1 : 0 ≤ x
    · rw [if_pos h1, if_pos h]
      exact Int32.le_antisymm (Int32.not_lt.mp h0) h1
    · rw [if_neg h1]
theorem clamp_hi {x : Int32} (h : 0 ≤ x) : clampT x = if x < 100 then x else 100 := by
  unfold clampT
  rw [if_pos h]
  by_cases h0 : x < 100
  · rw [if_pos (Int32.le_of_lt h0), if_pos h0]
  · rw [if_neg h0]
    by_cases h1 : x ≤ 100
    · rw [if_pos h1]
      exact Int32.le_antisymm h1 (Int32.not_lt.mp h0)
    · rw [if_neg h1]
theorem clamp_nI (x : Int32) : ∃ t, t ≤ 100 ∧ clampT x = nI t := by
  unfold clampT
  split
  · next h =>
    split
    · next h1 =>
      obtain ⟨j, hj, rfl⟩ := nI_of (Int32.not_lt.mpr h)
      refine ⟨j, ?_, rfl⟩
      have h9 := Int32.le_iff_toInt_le.mp h1
      rw [nI_toInt hj] at h9
      have : ((100 : Int32)).toInt = 100 := rfl
      omega
    · exact ⟨100, by omega, rfl⟩
  · exact ⟨0, by omega, rfl⟩
theorem sub_le100 {t c : Nat} (ht : t ≤ 100) (hc : c ≤ 100) : nI t - nI c ≤ 100 := by
  rw [Int32.le_iff_toInt_le, pk_sub_toInt (by omega) (by omega)]
  have : ((100 : Int32)).toInt = 100 := rfl
  omega
theorem tr_up {t : Nat} (ht : t ≤ 100) : clampT (nI t + 5) = if nI t + 5 < 100 then nI t + 5 else 100 := clamp_hi (by rw [show (5 : Int32) = nI 5 from rfl, nI_add]; exact nI_le (a := 0) (by omega) (by omega))
theorem tr_dn {t : Nat} (ht : t ≤ 100) {c : Nat} (hc : c ≤ 100) : clampT (nI t + -nI c) = if 0 < nI t - nI c then nI t - nI c else 0 := by
  rw [← Int32.sub_eq_add_neg]
  exact clamp_lo (sub_le100 ht hc)
theorem seed_nI {sd : Nat} (h : sd < 1024) : s_seed (nI sd) = nI ((29 * sd + 11) % 1024) := by
  unfold s_seed imod
  rw [show (29 : Int32) = nI 29 from rfl, pk_mul, show (11 : Int32) = nI 11 from rfl, nI_add]
  exact nMd (by omega) (by decide) (by decide)
theorem draw_hv' {n mc : Nat} {S : CT} (hS : HV n mc S) : HV n mc (s_draw S) := by
  obtain ⟨h1, h2, h3, h4, h5, h6, h7, ⟨sd, hsd, h8⟩, h9⟩ := hS
  exact ⟨h1, h2, h3, h4, h5, h6, h7, ⟨(29 * sd + 11) % 1024, Nat.mod_lt _ (by decide), by show s_seed (S 16 11) = _; rw [h8]; exact seed_nI hsd⟩, h9⟩
theorem HV.trust {n mc vg : Nat} {S : CT} (hS : HV n mc S) (hvg : vg < 3) {w : Int32} (hw : ∃ t, t ≤ 100 ∧ w = nI t) : HV n mc (us S 2 vg w) := by
  obtain ⟨h1, h2, h3, h4, h5, h6, h7, h8, h9⟩ := hS
  refine ⟨h1, h2, h3, h4, fun k hk => ?_, h6, h7, h8, h9⟩
  obtain ⟨p, t, o, a1, a2, a3, a4, a5, a6, a7⟩ := h5 k hk
  obtain ⟨t9, ht9, rfl⟩ := hw
  by_cases hkv : k = vg
  · subst hkv
    exact ⟨p, t9, o, a1, a2, ht9, a4, a5, if_pos rfl, a7⟩
  · exact ⟨p, t, o, a1, a2, a3, a4, a5, (if_neg hkv : upd (S 2) vg (nI t9) k = S 2 k).trans a6, a7⟩
theorem rem_n {n k : Nat} (hk : k < n) (X : CT) : s_remove X k (k + 1) n 16 12 = nI (n - 1) := by
  have e : k + (n - (k + 1)) = n - 1 := by omega
  show nI (k + (n - (k + 1))) = _
  rw [e]
theorem HV.rem {n mc k : Nat} {S : CT} (hS : HV n mc S) (hk : k < n) : HV (n - 1) mc (s_remove S k (k + 1) n) := by
  obtain ⟨h1, h2, h3, h4, h5, h6, h7, h8, h9⟩ := hS
  refine ⟨⟨rem_n hk S, by omega⟩, h2, h3, fun j hj => ?_, h5, h6, h7, h8, h9⟩
  rw [rem_row S k n j 10 hk hj (by decide) (by decide), rem_row S k n j 13 hk hj (by decide) (by decide)]
  exact h4 _ (by split <;> omega)
section JUDGE
variable {n mc k vg w9 : Nat} {T : CT}
theorem pl_k (hT : HV n mc T) (hk : k < n) (e : s_placeOf T (nI vg) (T 16 0) n = nI k) : ¬ s_placeOf T (nI vg) (T 16 0) n = -1 ∧ (s_placeOf T (nI vg) (T 16 0) n).toNatClampNeg = k := by
  have hn := hT.1.2
  rw [e]
  exact ⟨nI_ne_m1 (by omega), nI_clamp (by omega)⟩
theorem chg_us (X : CT) (hvg : vg < 3) (ch : Int32) : s_chg X (nI vg) ch 3 = us X 2 vg (clampT (X 2 vg + ch)) := by
  unfold s_chg
  rw [if_pos (in3 hvg), nI_clamp (by omega)]
theorem judge_hit (hT : HV n mc T) (hk : k < n) (hvg : vg < 3) (e : s_placeOf T (nI vg) (T 16 0) n = nI k) (c1 : T 12 k = nI w9) : s_judge T vg w9 n 3 mc = s_remove (us (us (us T 16 2 (T 16 2 + 1)) 2 vg (clampT (T 2 vg + 5))) 16 6 (T 16 6 + T 13 k)) k (k + 1) n := by
  obtain ⟨p1, p2⟩ := pl_k hT hk e
  rw [s_judge, if_neg p1, p2, s_judgeMid, if_pos c1, chg_us _ hvg, s_judgeEnd]
  rfl
theorem judge_miss (hT : HV n mc T) (hk : k < n) (hvg : vg < 3) (e : s_placeOf T (nI vg) (T 16 0) n = nI k) (c1 : ¬ T 12 k = nI w9) : s_judge T vg w9 n 3 mc = s_judgeEnd (us (s_payBack (s_memAdd (us T 16 3 (T 16 3 + 1)) (nI vg) (T 16 0) mc) (if w9 = 2 then T 14 k + 10 else T 14 k / 2)) 2 vg (clampT (T 2 vg + (if w9 = 2 then -20 else -10)))) k n := by
  obtain ⟨p1, p2⟩ := pl_k hT hk e
  rw [s_judge, if_neg p1, p2, s_judgeMid, if_neg c1, chg_us _ hvg]
  have e2 : (s_payBack (s_memAdd (us T 16 3 (T 16 3 + 1)) (nI vg) (T 16 0) mc) (if w9 = 2 then T 14 k + 10 else T 14 k / 2)) 2 = T 2 := by
    unfold s_memAdd
    split <;> rfl
  rw [e2]
theorem he_hit' (hT : HV n mc T) (hk : k < n) (hvg : vg < 3) (e : s_placeOf T (nI vg) (T 16 0) n = nI k) (c1 : T 12 k = nI w9) : HE (n - 1) mc (us (us (s_remove T k (k + 1) n) 16 2 (T 16 2 + 1)) 2 vg (if T 2 vg + 5 < 100 then T 2 vg + 5 else 100)) (s_judge T vg w9 n 3 mc) := by
  rw [judge_hit hT hk hvg e c1]
  obtain ⟨p, t, o, a1, a2, a3, a4, a5, a6, a7⟩ := hT.vil hvg
  have ec : (if T 2 vg + 5 < 100 then T 2 vg + 5 else 100) = clampT (T 2 vg + 5) := by rw [a6]; exact (tr_up a3).symm
  rw [ec]
  exact ⟨fun j hj => ⟨rfl, rfl, rfl, rfl⟩, fun j hj => ⟨rfl, rfl, rfl, rfl⟩, fun j _ => rfl, fun j _ => ⟨rfl, rfl, rfl, rfl, rfl⟩, rfl, rfl, rfl, rfl, rfl, rfl⟩
theorem bc_hit' (hT : HV n mc T) (hk : k < n) (hvg : vg < 3) (e : s_placeOf T (nI vg) (T 16 0) n = nI k) (c1 : T 12 k = nI w9) : bcO (s_judge T vg w9 n 3 mc) = n - 1 := by
  rw [judge_hit hT hk hvg e c1, bcO, rem_n hk]
  exact nI_clamp (by have := hT.1.2; omega)
theorem mc_hit' (hT : HV n mc T) (hk : k < n) (hvg : vg < 3) (e : s_placeOf T (nI vg) (T 16 0) n = nI k) (c1 : T 12 k = nI w9) : mcO (s_judge T vg w9 n 3 mc) = mc := by
  rw [judge_hit hT hk hvg e c1]
  exact hT.mc
theorem bc_miss' (hT : HV n mc T) (hk : k < n) (hvg : vg < 3) (e : s_placeOf T (nI vg) (T 16 0) n = nI k) (c1 : ¬ T 12 k = nI w9) : bcO (s_judge T vg w9 n 3 mc) = n - 1 := by
  rw [judge_miss hT hk hvg e c1, s_judgeEnd, bcO, rem_n hk]
  exact nI_clamp (by have := hT.1.2; omega)
theorem mem_13 (X : CT) (v d : Int32) (hmc : mc ≤ 10) : s_memAdd X v d mc 16 13 = nI (mc2 mc) := by
  rw [s_memAdd_13 _ _ _ _ hmc, mc2]
  congr 1
  split <;> omega
theorem mc_miss' (hT : HV n mc T) (hk : k < n) (hvg : vg < 3) (e : s_placeOf T (nI vg) (T 16 0) n = nI k) (c1 : ¬ T 12 k = nI w9) : mcO (s_judge T vg w9 n 3 mc) = mc2 mc := by
  rw [judge_miss hT hk hvg e c1]
  have hm := hT.2.1.2
  have h9 := (mc2_le hm).1
  show (s_memAdd (us T 16 3 (T 16 3 + 1)) (nI vg) (T 16 0) mc 16 13).toNatClampNeg = _
  rw [mem_13 _ _ _ hm]
  exact nI_clamp (by omega)
theorem mem_15 (X : CT) (v d : Int32) (hmc : mc ≤ 10) {j : Nat} (hj : j < mc2 mc) : s_memAdd X v d mc 15 j = if j = mc2 mc - 1 then s_label v d else X 15 (j + (if mc = 10 then 1 else 0)) := by
  unfold mc2 at hj ⊢
  by_cases h : mc = 10
  · subst h
    rw [if_pos rfl] at hj ⊢
    rw [if_pos rfl]
    show upd (va_cpy (X 15) (X 15) 1 0 9) 9 (s_label v d) j = _
    by_cases h9 : j = 9
    · subst h9; rfl
    · rw [if_neg h9]
      show (if j = 9 then _ else va_cpy (X 15) (X 15) 1 0 9 j) = _
      rw [if_neg h9]
      show (if 0 ≤ j ∧ j < 0 + 9 then X 15 (1 + (j - 0)) else X 15 j) = _
      rw [if_pos ⟨by omega, by omega⟩]
      congr 1
      omega
  · rw [if_neg h] at hj ⊢
    rw [if_neg h, s_memAdd, if_neg (by omega)]
    show upd (X 15) mc (s_label v d) j = _
    by_cases h9 : j = mc
    · subst h9
      rw [if_pos (by omega)]
      exact if_pos rfl
    · rw [if_neg (by omega)]
      exact if_neg h9
theorem mem_k (X : CT) (v d : Int32) (r : Nat) (hr : r ≠ 15) (hr2 : r ≠ 16) : s_memAdd X v d mc r = X r := by
  unfold s_memAdd
  split <;> (show (if r = 16 then _ else _) = _; rw [if_neg hr2]; show (if r = 15 then _ else _) = _; rw [if_neg hr]) <;> first | rfl | (show (if r = 16 then _ else _) = _; rw [if_neg hr2]; show (if r = 15 then _ else _) = _; rw [if_neg hr])
theorem he_missg (hT : HV n mc T) (hk : k < n) (hvg : vg < 3) (e : s_placeOf T (nI vg) (T 16 0) n = nI k) (c1 : ¬ T 12 k = nI w9) {r x2 : Int32} (hr : (if w9 = 2 then T 14 k + 10 else T 14 k / 2) = r) (hx : clampT (T 2 vg + (if w9 = 2 then -20 else -10)) = x2) : HE (n - 1) (mc2 mc) (us (us (s_memT (s_remove T k (k + 1) n) (10 * T 16 0 + nI vg) mc) 16 1 (T 16 1 - r)) 2 vg x2) (s_judge T vg w9 n 3 mc) := by
  rw [judge_miss hT hk hvg e c1, hr, hx]
  have hm := hT.2.1.2
  obtain ⟨M, hM⟩ : ∃ M, M = s_memAdd (us T 16 3 (T 16 3 + 1)) (nI vg) (T 16 0) mc := ⟨_, rfl⟩
  have mk : ∀ r, r ≠ 15 → r ≠ 16 → M r = T r := fun r h1 h2 => by
    rw [hM, mem_k _ _ _ _ h1 h2]
    show (if r = 16 then _ else _) = _
    rw [if_neg h2]
  have m16 : ∀ j, j ≠ 13 → M 16 j = (us T 16 3 (T 16 3 + 1)) 16 j := fun j hj => by rw [hM]; exact s_memAdd_16 _ _ _ _ _ hj
  have m15 : ∀ j, j < mc2 mc → M 15 j = if j = mc2 mc - 1 then s_label (nI vg) (T 16 0) else T 15 (j + (if mc = 10 then 1 else 0)) := fun j hj => by rw [hM]; exact mem_15 _ _ _ hm hj
  rw [← hM]
  refine ⟨fun j hj => ⟨?_, ?_, ?_, ?_⟩, fun j hj => ⟨?_, ?_, ?_, ?_⟩, fun j hj => ?_, fun j _ => ⟨?_, ?_, ?_, ?_, ?_⟩, ?_, ?_, ?_, ?_, ?_, ?_⟩
  · show T 1 j = M 1 j; rw [mk 1 (by decide) (by decide)]
  · show upd (T 2) vg x2 j = upd (M 2) vg x2 j; rw [mk 2 (by decide) (by decide)]
  · show T 8 j = M 8 j; rw [mk 8 (by decide) (by decide)]
  · show T 9 j = M 9 j; rw [mk 9 (by decide) (by decide)]
  · show T 4 j = M 4 j; rw [mk 4 (by decide) (by decide)]
  · show T 5 j = M 5 j; rw [mk 5 (by decide) (by decide)]
  · show T 6 j = M 6 j; rw [mk 6 (by decide) (by decide)]
  · show T 7 j = M 7 j; rw [mk 7 (by decide) (by decide)]
  · show (if j = mc2 mc - 1 then 10 * T 16 0 + nI vg else T 15 (j + (if mc = 10 then 1 else 0))) = M 15 j
    rw [m15 j hj]
    rfl
  · show va_cpy (T 10) (T 10) (k + 1) k (n - (k + 1)) j = va_cpy (M 10) (M 10) (k + 1) k (n - (k + 1)) j; rw [mk 10 (by decide) (by decide)]
  · show va_cpy (T 11) (T 11) (k + 1) k (n - (k + 1)) j = va_cpy (M 11) (M 11) (k + 1) k (n - (k + 1)) j; rw [mk 11 (by decide) (by decide)]
  · show va_cpy (T 12) (T 12) (k + 1) k (n - (k + 1)) j = va_cpy (M 12) (M 12) (k + 1) k (n - (k + 1)) j; rw [mk 12 (by decide) (by decide)]
  · show va_cpy (T 13) (T 13) (k + 1) k (n - (k + 1)) j = va_cpy (M 13) (M 13) (k + 1) k (n - (k + 1)) j; rw [mk 13 (by decide) (by decide)]
  · show va_cpy (T 14) (T 14) (k + 1) k (n - (k + 1)) j = va_cpy (M 14) (M 14) (k + 1) k (n - (k + 1)) j; rw [mk 14 (by decide) (by decide)]
  · show T 16 11 = M 16 11; rw [m16 11 (by decide)]; rfl
  · show T 16 0 = M 16 0; rw [m16 0 (by decide)]; rfl
  · show T 16 1 - r = M 16 1 - r; rw [m16 1 (by decide)]; rfl
  · show T 16 2 = M 16 2; rw [m16 2 (by decide)]; rfl
  · show T 16 3 + 1 = M 16 3; rw [m16 3 (by decide)]; rfl
  · show T 16 4 = M 16 4; rw [m16 4 (by decide)]; rfl
theorem he_miss1' (hT : HV n mc T) (hk : k < n) (hvg : vg < 3) (e : s_placeOf T (nI vg) (T 16 0) n = nI k) (c1 : ¬ T 12 k = nI w9) (c2 : ¬ w9 = 2) : HE (n - 1) (mc2 mc) (us (us (s_memT (s_remove T k (k + 1) n) (10 * T 16 0 + nI vg) mc) 16 1 (T 16 1 - T 14 k / 2)) 2 vg (if 0 < T 2 vg - 10 then T 2 vg - 10 else 0)) (s_judge T vg w9 n 3 mc) := by
  obtain ⟨p, t, o, a1, a2, a3, a4, a5, a6, a7⟩ := hT.vil hvg
  exact he_missg hT hk hvg e c1 (if_neg c2) (by rw [if_neg c2, a6]; exact tr_dn (c := 10) a3 (by decide))
theorem he_miss2' (hT : HV n mc T) (hk : k < n) (hvg : vg < 3) (e : s_placeOf T (nI vg) (T 16 0) n = nI k) (c1 : ¬ T 12 k = nI w9) (c2 : w9 = 2) : HE (n - 1) (mc2 mc) (us (us (s_memT (s_remove T k (k + 1) n) (10 * T 16 0 + nI vg) mc) 16 1 (T 16 1 - (T 14 k + 10))) 2 vg (if 0 < T 2 vg - 20 then T 2 vg - 20 else 0)) (s_judge T vg w9 n 3 mc) := by
  obtain ⟨p, t, o, a1, a2, a3, a4, a5, a6, a7⟩ := hT.vil hvg
  exact he_missg hT hk hvg e c1 (if_pos c2) (by rw [if_pos c2, a6]; exact tr_dn (c := 20) a3 (by decide))
/-- a judged village's contents keep the invariant -/
theorem judge_hv (hT : HV n mc T) (hvg : vg < 3) (hw : w9 < 3) : HV (bcO (s_judge T vg w9 n 3 mc)) (mcO (s_judge T vg w9 n 3 mc)) (s_judge T vg w9 n 3 mc) := by
  have hn := hT.1.2
  rcases placeOf_cases T (nI vg) (T 16 0) n with e | ⟨k, hk, e, -, -⟩
  · have h9 : s_judge T vg w9 n 3 mc = T := if_pos e
    rw [h9, hT.bc, hT.mc]
    exact hT
  · by_cases c1 : T 12 k = nI w9
    · rw [bc_hit' hT hk hvg e c1, mc_hit' hT hk hvg e c1, judge_hit hT hk hvg e c1]
      have h1 : HV n mc (us T 16 2 (T 16 2 + 1)) := hT
      have h2 := h1.trust hvg (clamp_nI (T 2 vg + 5))
      have h3 : HV n mc (us (us (us T 16 2 (T 16 2 + 1)) 2 vg (clampT (T 2 vg + 5))) 16 6 (T 16 6 + T 13 k)) := h2
      exact h3.rem hk
    · have hm := hT.2.1.2
      rw [bc_miss' hT hk hvg e c1, mc_miss' hT hk hvg e c1, judge_miss hT hk hvg e c1, s_judgeEnd]
      refine HV.rem ?_ hk
      have mk : ∀ r, r ≠ 15 → r ≠ 16 → s_memAdd (us T 16 3 (T 16 3 + 1)) (nI vg) (T 16 0) mc r = T r := fun r h1 h2 => by
        rw [mem_k _ _ _ _ h1 h2]
        show (if r = 16 then _ else _) = _
        rw [if_neg h2]
      have m16 : ∀ j, j ≠ 13 → s_memAdd (us T 16 3 (T 16 3 + 1)) (nI vg) (T 16 0) mc 16 j = (us T 16 3 (T 16 3 + 1)) 16 j := fun j hj => s_memAdd_16 _ _ _ _ _ hj
      have m13 := mem_13 (mc := mc) (us T 16 3 (T 16 3 + 1)) (nI vg) (T 16 0) hm
      obtain ⟨M, hM⟩ : ∃ M, M = s_memAdd (us T 16 3 (T 16 3 + 1)) (nI vg) (T 16 0) mc := ⟨_, rfl⟩
      rw [← hM] at mk m16 m13 ⊢
      obtain ⟨h1, h2, h3, h4, h5, h6, h7, h8, h9⟩ := hT
      have hMV : HV n (mc2 mc) M := ⟨⟨by rw [m16 12 (by decide)]; exact h1.1, h1.2⟩, ⟨m13, (mc2_le hm).1⟩, ⟨by rw [m16 9 (by decide)]; exact h3.1, by rw [m16 10 (by decide)]; exact h3.2⟩, by rw [mk 10 (by decide) (by decide), mk 13 (by decide) (by decide)]; exact h4, by rw [mk 1 (by decide) (by decide), mk 2 (by decide) (by decide), mk 8 (by decide) (by decide)]; exact h5, by rw [s_sumO, mk 8 (by decide) (by decide)]; exact h6, by rw [mk 4 (by decide) (by decide), mk 5 (by decide) (by decide), mk 6 (by decide) (by decide)]; exact h7, by rw [m16 11 (by decide)]; exact h8, by rw [m16 0 (by decide)]; exact h9⟩
      obtain ⟨r, hr⟩ : ∃ r, r = (if w9 = 2 then T 14 k + 10 else T 14 k / 2) := ⟨_, rfl⟩
      rw [← hr]
      have hP : HV n (mc2 mc) (s_payBack M r) := hMV
      have hQ := hP.trust hvg (clamp_nI (T 2 vg + (if w9 = 2 then -20 else -10)))
      exact hQ
end JUDGE
theorem vil_hv' {n mc vg : Nat} {T : CT} (hT : HV n mc T) (hv : vg < 3) : HV (bcO (s_vilB vg T)) (mcO (s_vilB vg T)) (s_vilB vg T) := by
  have h := judge_hv (draw_hv' hT) hv (s_drawW_lt T)
  rw [s_vilB, hT.bc, hT.vc, hT.mc]
  exact h
theorem sellAt_hv' {n mc f : Nat} {T : CT} (hT : HV n mc T) (hf : f < 2) : HV n mc (s_sellAt T f n 3) := by
  obtain ⟨w, pe, so, a1, a2, a3, a5, a6, a7, a8⟩ := hT.2.2.2.2.2.2.1 f hf
  have g : ∀ m i (p : CT × Int32), i + m = n → HV n mc p.1 → (∃ l9, l9 ≤ 40 ∧ p.2 = nI l9) → HV n mc (fo (s_sellB (T 4 f) f 3) i m p).1 := by
    intro m
    induction m with
    | zero => exact fun _ _ _ h _ => h
    | succ m ih =>
      intro i p hi hp hl
      obtain ⟨l9, hl9, el⟩ := hl
      refine ih (i + 1) _ (by omega) ?_ ?_
      · unfold s_sellB
        split
        · split
          · exact hp
          · next h1 _ => exact (sell_hv hp h1 (by omega) hl9 el).1
        · exact hp
      · unfold s_sellB
        split
        · split
          · exact ⟨l9, hl9, el⟩
          · next h1 _ => exact (sell_hv (pr := 0) hp h1 (by omega) hl9 el).2
        · exact ⟨l9, hl9, el⟩
  exact g n 0 (T, T 6 f) (by omega) hT ⟨so, a5, a8⟩
theorem day_unf' {n mc : Nat} {S : CT} (hS : HV n mc (us S 16 0 (S 16 0 + 1))) : s_day S = s_dayY (s_vilB 2 (s_vilB 1 (s_vilB 0 (s_fairB 1 (s_fairB 0 (us S 16 0 (S 16 0 + 1))))))) := by
  have hF : ∀ f T n mc, f < 2 → HV n mc T → HV n mc (s_fairB f T) := fun f T n mc hf hT => by
    unfold s_fairB
    split
    · rw [hT.bc, hT.vc]; exact sellAt_hv' hT hf
    · exact hT
  obtain ⟨X, hX⟩ : ∃ X, X = us S 16 0 (S 16 0 + 1) := ⟨_, rfl⟩
  rw [s_day, ← hX]
  rw [← hX] at hS
  have h1 : s_dayF X = s_fairB 1 (s_fairB 0 X) := by rw [s_dayF, hS.fc]; rfl
  have h2 : HV n mc (s_fairB 1 (s_fairB 0 X)) := hF 1 _ _ _ (by decide) (hF 0 _ _ _ (by decide) hS)
  rw [h1, s_dayV, h2.vc]
  rfl

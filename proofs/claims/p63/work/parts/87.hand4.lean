/-! THE HAND: retracts -/
def pmm (j : Nat) : Int32 := if j = 0 then -1 else nI (j - 1)
theorem pmm_lt {j q : Nat} (hj : j ≤ 1000) (hq : q ≤ 1000) : pmm j < nI q ↔ j ≤ q := by
  unfold pmm
  by_cases h : j = 0
  · subst h
    rw [if_pos rfl, Int32.lt_iff_toInt_lt, nI_toInt (by omega), show (-1 : Int32).toInt = -1 from rfl]
    omega
  · rw [if_neg h, nI_ltI (by omega) (by omega)]; omega
theorem pmm_s (j : Nat) : pmm (j + 1) = nI j := if_neg (by omega)
theorem pmm_d (j : Nat) : nI j + Int32.ofInt (-1) = pmm j := by
  unfold pmm
  by_cases h : j = 0
  · subst h; rw [if_pos rfl]; decide
  · rw [if_neg h]; exact nI_dec (by omega)
theorem pmm_1 {e : Nat} (h : 1 ≤ e) : nI e - 1 = pmm e := by
  rw [pmm, if_neg (by omega)]; exact pk_sub (a := e) (b := 1) h
/-- one row that is taken back: the trust, the number, the row -/
def h_tb1 (k : Nat) (T : CT) : CT := us (us T 2 (T 10 k).toNatClampNeg (if 0 < T 2 (T 10 k).toNatClampNeg - 5 then T 2 (T 10 k).toNatClampNeg - 5 else 0)) 16 4 (T 16 4 + 1)
def h_tbs (nn k : Nat) (T : CT) : CT := s_remove (h_tb1 k T) k (k + 1) nn
/-- m rows taken back, from the row before e on downwards -/
def h_tb (S : CT) (n e : Nat) : Nat → CT
  | 0 => S
  | m + 1 => h_tbs (n - m) (e - m - 1) (h_tb S n e m)
theorem tb_rows {S : CT} {n e : Nat} (he : e ≤ n) (hS : ∀ k, k < n → ∃ v, v < 3 ∧ S 10 k = nI v) : ∀ m, m ≤ e → ∀ k, k < n - m → ∃ v, v < 3 ∧ h_tb S n e m 10 k = nI v
  | 0, _, k, hk => hS k hk
  | m + 1, hm, k, hk => by
    have ih := tb_rows he hS m (by omega)
    show ∃ v, v < 3 ∧ s_remove (h_tb1 (e - m - 1) (h_tb S n e m)) (e - m - 1) (e - m - 1 + 1) (n - m) 10 k = nI v
    rw [rem_row _ _ _ _ 10 (by omega) (by omega) (by decide) (by decide)]
    have e9 : ∀ i, h_tb1 (e - m - 1) (h_tb S n e m) 10 i = h_tb S n e m 10 i := fun _ => rfl
    rw [e9]
    exact ih _ (by split <;> omega)
/-! taking a page back -/
theorem tr5 {t : Nat} (ht : t ≤ 100) : clampT (nI t + -5) = nI (t - 5) ∧ (if 0 < nI t - 5 then nI t - 5 else 0) = nI (t - 5) := by
  have e : (if 0 < nI t - 5 then nI t - 5 else 0) = nI (t - 5) := by
    by_cases h : 5 < t
    · have e5 : nI t - 5 = nI (t - 5) := pk_sub (a := t) (b := 5) (by omega)
      rw [e5, if_pos (show (0 : Int32) < nI (t - 5) from nI_lt (a := 0) (b := t - 5) (by omega) (by omega))]
    · have h9 : ¬ (0 : Int32) < nI t - 5 := by
        rw [Int32.lt_iff_toInt_lt, show (5 : Int32) = nI 5 from rfl, pk_sub_toInt (by omega) (by omega), Int32.toInt_zero]
        omega
      rw [if_neg h9, show t - 5 = 0 by omega]
      rfl
  exact ⟨(tr_dn (c := 5) ht (by decide)).trans e, e⟩
/-- how many of the rows i, i + 1, .. (m of them) are of village v -/
def cntV (S : CT) (v i : Nat) : Nat → Nat
  | 0 => 0
  | m + 1 => cntV S v i m + (if S 10 (i + m) = nI v then 1 else 0)
theorem cntV_front (S : CT) (v i : Nat) : ∀ m, cntV S v i (m + 1) = (if S 10 i = nI v then 1 else 0) + cntV S v (i + 1) m
  | 0 => by show 0 + (if S 10 (i + 0) = nI v then 1 else 0) = _ + 0; rw [Nat.add_zero, Nat.add_zero, Nat.zero_add]
  | m + 1 => by
    show cntV S v i (m + 1) + (if S 10 (i + (m + 1)) = nI v then 1 else 0) = (if S 10 i = nI v then 1 else 0) + (cntV S v (i + 1) m + (if S 10 (i + 1 + m) = nI v then 1 else 0))
    rw [cntV_front S v i m, show i + 1 + m = i + (m + 1) by omega, Nat.add_assoc]
section TB
variable {n mc : Nat} {S : CT}
/-- rows and trusts of the Hand after m rows -/
theorem tb_hand {e : Nat} (he : e ≤ n) (hn : n ≤ 30) (hS : ∀ k, k < n → ∃ v, v < 3 ∧ S 10 k = nI v) (hT : ∀ v, v < 3 → ∃ t, t ≤ 100 ∧ S 2 v = nI t) : ∀ m, m ≤ e → (∀ r, 10 ≤ r → r ≤ 14 → ∀ j, j < n - m → h_tb S n e m r j = S r (if j < e - m then j else j + m)) ∧ (∀ v t, v < 3 → S 2 v = nI t → t ≤ 100 → h_tb S n e m 2 v = nI (t - 5 * cntV S v (e - m) m)) ∧ (∀ r, r ≠ 2 → r ≠ 16 → ¬ (10 ≤ r ∧ r ≤ 14) → h_tb S n e m r = S r) ∧ (∀ j, j ≠ 4 → j ≠ 12 → h_tb S n e m 16 j = S 16 j) ∧ h_tb S n e m 16 4 = S 16 4 + nI m
  | 0, _ => ⟨fun r h1 h2 j hj => by show S r j = _; split <;> rfl, fun v t hv h1 h2 => h1, fun _ _ _ _ => rfl, fun _ _ _ => rfl, (Int32.add_zero _).symm⟩
  | m + 1, hm => by
    obtain ⟨i1, i2, i3, i4, i5⟩ := tb_hand he hn hS hT m (by omega)
    obtain ⟨T, hTd⟩ : ∃ T, T = h_tb S n e m := ⟨_, rfl⟩
    rw [← hTd] at i1 i2 i3 i4 i5
    have hst : h_tb S n e (m + 1) = s_remove (h_tb1 (e - m - 1) T) (e - m - 1) (e - m - 1 + 1) (n - m) := by rw [hTd]; rfl
    obtain ⟨k, hk⟩ : ∃ k, k = e - m - 1 := ⟨_, rfl⟩
    rw [← hk] at hst
    have ek : T 10 k = S 10 k := by rw [i1 10 (by decide) (by decide) k (by omega), if_pos (by omega)]
    obtain ⟨v, hv, ev⟩ := hS k (by omega)
    have evT := ek.trans ev
    obtain ⟨t, ht, et⟩ := hT v hv
    have e2 : T 2 v = nI (t - 5 * cntV S v (e - m) m) := i2 v t hv et ht
    have hd1 : h_tb1 k T = us (us T 2 v (nI (t - 5 * cntV S v (e - m) m - 5))) 16 4 (T 16 4 + 1) := by rw [h_tb1, evT, nI_clamp (by omega), e2, (tr5 (by omega)).2]
    rw [hst, hd1]
    refine ⟨fun r h1 h2 j hj => ?_, fun w tw hw h1 h2 => ?_, fun r h1 h2 h3 => ?_, fun j h1 h2 => ?_, ?_⟩
    · rw [rem_row _ k (n - m) j r (by omega) (by omega) h1 h2]
      have e0 : us (us T 2 v (nI (t - 5 * cntV S v (e - m) m - 5))) 16 4 (T 16 4 + 1) r = T r := by
        show (if r = 16 then _ else if r = 2 then _ else T r) = T r
        rw [if_neg (by omega), if_neg (by omega)]
      rw [e0]
      by_cases hjk : j < k
      · rw [if_pos hjk, if_pos (by omega), i1 r h1 h2 j (by omega), if_pos (by omega)]
      · rw [if_neg hjk, if_neg (by omega), i1 r h1 h2 (j + 1) (by omega), if_neg (by omega), show j + 1 + m = j + (m + 1) by omega]
    · show upd (T 2) v (nI (t - 5 * cntV S v (e - m) m - 5)) w = _
      have ef : cntV S w (e - (m + 1)) (m + 1) = (if S 10 k = nI w then 1 else 0) + cntV S w (e - m) m := by
        rw [cntV_front, show e - (m + 1) = k by omega, show k + 1 = e - m by omega]
      rw [ef]
      by_cases hwv : w = v
      · subst hwv
        rw [if_pos ev]
        have htw : tw = t := nI_ij (by omega) (by omega) (h1.symm.trans et)
        subst htw
        show (if w = w then _ else _) = _
        rw [if_pos rfl]
        congr 1
        omega
      · have hne : ¬ S 10 k = nI w := fun h => hwv (nI_ij (by omega) (by omega) (h.symm.trans ev))
        rw [if_neg hne]
        show (if w = v then _ else T 2 w) = _
        rw [if_neg hwv, i2 w tw hw h1 h2, Nat.zero_add]
    · show (if r = 16 then _ else if r = 14 then _ else if r = 13 then _ else if r = 12 then _ else if r = 11 then _ else if r = 10 then _ else (if r = 16 then _ else if r = 2 then _ else T r)) = _
      rw [if_neg h2, if_neg (by omega), if_neg (by omega), if_neg (by omega), if_neg (by omega), if_neg (by omega), if_neg h2, if_neg h1]
      exact i3 r h1 h2 h3
    · rw [rem_16 _ _ _ _ h2]
      show upd (T 16) 4 (T 16 4 + 1) j = _
      rw [show upd (T 16) 4 (T 16 4 + 1) j = T 16 j from if_neg h1]
      exact i4 j h1 h2
    · rw [rem_16 _ _ _ _ (by decide)]
      show T 16 4 + 1 = _
      rw [i5, Int32.add_assoc, nI_1]
theorem fo_back {σ : Type} (b : Nat → σ → σ) : ∀ m i (s : σ), fo b i (m + 1) s = b (i + m) (fo b i m s)
  | 0, _, _ => rfl
  | m + 1, i, s => by
    show fo b (i + 1) (m + 1) (b i s) = b (i + (m + 1)) (fo b (i + 1) m (b i s))
    rw [fo_back b m (i + 1) (b i s), show i + 1 + m = i + (m + 1) by omega]
/-- rows and trusts of the office's loop -/
theorem tb_loop (hS : ∀ k, k < n → ∃ v, v < 3 ∧ S 10 k = nI v) (hT : ∀ v, v < 3 → ∃ t, t ≤ 100 ∧ S 2 v = nI t) (p : Nat) : ∀ m, p + m ≤ n → (∀ v t, v < 3 → S 2 v = nI t → t ≤ 100 → fo (s_tbBody 3) p m S 2 v = nI (t - 5 * cntV S v p m)) ∧ (∀ r, r ≠ 2 → r ≠ 16 → fo (s_tbBody 3) p m S r = S r) ∧ (∀ j, j ≠ 4 → j ≠ 6 → fo (s_tbBody 3) p m S 16 j = S 16 j) ∧ fo (s_tbBody 3) p m S 16 4 = S 16 4 + nI m ∧ fo (s_tbBody 3) p m S 16 6 = fo (fun i s => s + S 13 i) p m (S 16 6)
  | 0, _ => ⟨fun v t hv h1 h2 => h1, fun _ _ _ => rfl, fun _ _ _ => rfl, (Int32.add_zero _).symm, rfl⟩
  | m + 1, hm => by
    obtain ⟨i2, i3, i4, i5, i6⟩ := tb_loop hS hT p m (by omega)
    rw [fo_back, fo_back]
    obtain ⟨T, hTd⟩ : ∃ T, T = fo (s_tbBody 3) p m S := ⟨_, rfl⟩
    rw [← hTd] at i2 i3 i4 i5 i6 ⊢
    obtain ⟨v, hv, ev⟩ := hS (p + m) (by omega)
    have evT : T 10 (p + m) = nI v := by rw [i3 10 (by decide) (by decide)]; exact ev
    obtain ⟨t, ht, et⟩ := hT v hv
    have e2 : T 2 v = nI (t - 5 * cntV S v p m) := i2 v t hv et ht
    have hb : s_tbBody 3 (p + m) T = us (us (us T 2 v (nI (t - 5 * cntV S v p m - 5))) 16 6 (T 16 6 + T 13 (p + m))) 16 4 (T 16 4 + 1) := by
      rw [s_tbBody, evT, chg_us _ hv, e2, (tr5 (by omega)).1]
      rfl
    rw [hb]
    refine ⟨fun w tw hw h1 h2 => ?_, fun r h1 h2 => ?_, fun j h1 h2 => ?_, ?_, ?_⟩
    · show upd (T 2) v (nI (t - 5 * cntV S v p m - 5)) w = _
      show _ = nI (tw - 5 * (cntV S w p m + (if S 10 (p + m) = nI w then 1 else 0)))
      by_cases hwv : w = v
      · subst hwv
        rw [if_pos ev]
        have htw : tw = t := nI_ij (by omega) (by omega) (h1.symm.trans et)
        subst htw
        show (if w = w then _ else _) = _
        rw [if_pos rfl]
        exact congrArg nI (by omega)
      · have hne : ¬ S 10 (p + m) = nI w := fun h => hwv (nI_ij (by omega) (by omega) (h.symm.trans ev))
        rw [if_neg hne]
        show (if w = v then _ else T 2 w) = _
        rw [if_neg hwv, i2 w tw hw h1 h2, Nat.add_zero]
    · show (if r = 16 then _ else if r = 16 then _ else if r = 2 then _ else T r) = _
      rw [if_neg h2, if_neg h2, if_neg h1]
      exact i3 r h1 h2
    · show (if j = 4 then _ else if j = 6 then _ else T 16 j) = _
      rw [if_neg h1, if_neg h2]
      exact i4 j h1 h2
    · show T 16 4 + 1 = _
      rw [i5, Int32.add_assoc, nI_1]
    · show T 16 6 + T 13 (p + m) = fo (fun i s => s + S 13 i) p m (S 16 6) + S 13 (p + m)
      rw [i6, i3 13 (by decide) (by decide)]
theorem HV.vr (hS : HV n mc S) : ∀ k, k < n → ∃ v, v < 3 ∧ S 10 k = nI v := fun k hk => by
  obtain ⟨v, s9, h1, h2, h3, h4⟩ := hS.2.2.2.1 k hk
  exact ⟨v, h1, h3⟩
theorem HV.tr (hS : HV n mc S) : ∀ v, v < 3 → ∃ t, t ≤ 100 ∧ S 2 v = nI t := fun v hv => by
  obtain ⟨p, t, o, a1, a2, a3, a4, a5, a6, a7⟩ := hS.vil hv
  exact ⟨t, a3, a6⟩
theorem tb_cnt {pg : Nat} (hS : HV n mc S) (hpg : 4 * pg < n) : bcO (s_takeBack S pg n 3) = n - (min n (4 * pg + 4) - 4 * pg) ∧ mcO (s_takeBack S pg n 3) = mc := by
  have hn := hS.1.2
  constructor
  · show (nI (4 * pg + (n - min n (4 * pg + 4)))).toNatClampNeg = _
    rw [nI_clamp (by omega)]
    omega
  · show (s_tbLoop S pg n 3 16 13).toNatClampNeg = mc
    rw [s_tbLoop_16 _ _ _ _ 13 (by decide) (by decide)]
    exact hS.mc
theorem he_tb {pg : Nat} (hS : HV n mc S) (hpg : 4 * pg < n) : HE (n - (min n (4 * pg + 4) - 4 * pg)) mc (h_tb (us S 16 1 (S 16 1 - s_paidForPage S pg n)) n (min n (4 * pg + 4)) (min n (4 * pg + 4) - 4 * pg)) (s_takeBack S pg n 3) := by
  have hn := hS.1.2
  obtain ⟨e, he⟩ : ∃ e, e = min n (4 * pg + 4) := ⟨_, rfl⟩
  obtain ⟨S0, hS0⟩ : ∃ S0, S0 = us S 16 1 (S 16 1 - s_paidForPage S pg n) := ⟨_, rfl⟩
  obtain ⟨L, hL⟩ : ∃ L, L = s_tbLoop S pg n 3 := ⟨_, rfl⟩
  have hb : s_takeBack S pg n 3 = s_payBack (s_remove L (4 * pg) e n) (s_paidForPage S pg n) := by rw [hL, he]; rfl
  rw [hb, ← hS0, ← he]
  have k0 : ∀ r, r ≠ 16 → S0 r = S r := fun r h => by rw [hS0]; exact if_neg h
  obtain ⟨i1, i2, i3, i4, i5⟩ := tb_hand (S := S0) (n := n) (e := e) (by omega) hn (by rw [k0 10 (by decide)]; exact hS.vr) (by rw [k0 2 (by decide)]; exact hS.tr) (e - 4 * pg) (by omega)
  obtain ⟨l2, l3, l4, l5, -⟩ := tb_loop (S := S) (n := n) hS.vr hS.tr (4 * pg) (e - 4 * pg) (by omega)
  have hLd : fo (s_tbBody 3) (4 * pg) (e - 4 * pg) S = L := by rw [hL, he]; rfl
  rw [hLd] at l2 l3 l4 l5
  have ee : e - (e - 4 * pg) = 4 * pg := by omega
  rw [ee] at i1 i2
  obtain ⟨T, hT⟩ : ∃ T, T = h_tb S0 n e (e - 4 * pg) := ⟨_, rfl⟩
  rw [← hT] at i1 i2 i3 i4 i5 ⊢
  have cn : ∀ v i m, cntV S0 v i m = cntV S v i m := fun v i m => by
    induction m with
    | zero => rfl
    | succ m ih => show cntV S0 v i m + _ = cntV S v i m + _; rw [ih, k0 10 (by decide)]
  have rows : ∀ r, 10 ≤ r → r ≤ 14 → ∀ j, j < n - (e - 4 * pg) → T r j = va_cpy (L r) (L r) e (4 * pg) (n - e) j := fun r h1 h2 j hj => by
    rw [i1 r h1 h2 j hj, k0 r (by omega), l3 r (by omega) (by omega)]
    by_cases hjp : j < 4 * pg
    · rw [if_pos hjp, pk_cpy_out (Or.inl hjp)]
    · rw [if_neg hjp, pk_cpy_in (by omega) (by omega)]
      congr 1
      omega
  have oth : ∀ r, r ≠ 2 → r ≠ 16 → ¬ (10 ≤ r ∧ r ≤ 14) → T r = L r := fun r h1 h2 h3 => by rw [i3 r h1 h2 h3, k0 r h2, l3 r h1 h2]
  have o16 : ∀ j, j ≠ 4 → j ≠ 12 → j ≠ 1 → j ≠ 6 → T 16 j = L 16 j := fun j h1 h2 h3 h4 => by
    rw [i4 j h1 h2, l4 j h1 h4, hS0]
    exact if_neg h3
  refine ⟨fun j hj => ⟨?_, ?_, ?_, ?_⟩, fun j hj => ⟨?_, ?_, ?_, ?_⟩, fun j hj => ?_, fun j hj => ⟨?_, ?_, ?_, ?_, ?_⟩, ?_, ?_, ?_, ?_, ?_, ?_⟩
  · show T 1 j = L 1 j; rw [oth 1 (by decide) (by decide) (by decide)]
  · show T 2 j = L 2 j
    obtain ⟨t, ht, et⟩ := hS.tr j hj
    rw [i2 j t hj (by rw [k0 2 (by decide)]; exact et) ht, l2 j t hj et ht, cn]
  · show T 8 j = L 8 j; rw [oth 8 (by decide) (by decide) (by decide)]
  · show T 9 j = L 9 j; rw [oth 9 (by decide) (by decide) (by decide)]
  · show T 4 j = L 4 j; rw [oth 4 (by decide) (by decide) (by decide)]
  · show T 5 j = L 5 j; rw [oth 5 (by decide) (by decide) (by decide)]
  · show T 6 j = L 6 j; rw [oth 6 (by decide) (by decide) (by decide)]
  · show T 7 j = L 7 j; rw [oth 7 (by decide) (by decide) (by decide)]
  · show T 15 j = L 15 j; rw [oth 15 (by decide) (by decide) (by decide)]
  · exact rows 10 (by decide) (by decide) j hj
  · exact rows 11 (by decide) (by decide) j hj
  · exact rows 12 (by decide) (by decide) j hj
  · exact rows 13 (by decide) (by decide) j hj
  · exact rows 14 (by decide) (by decide) j hj
  · show T 16 11 = L 16 11; exact o16 11 (by decide) (by decide) (by decide) (by decide)
  · show T 16 0 = L 16 0; exact o16 0 (by decide) (by decide) (by decide) (by decide)
  · show T 16 1 = L 16 1 - s_paidForPage S pg n
    rw [i4 1 (by decide) (by decide), l4 1 (by decide) (by decide), hS0]
    rfl
  · show T 16 2 = L 16 2; exact o16 2 (by decide) (by decide) (by decide) (by decide)
  · show T 16 3 = L 16 3; exact o16 3 (by decide) (by decide) (by decide) (by decide)
  · show T 16 4 = L 16 4
    rw [i5, l5, hS0]
    rfl
end TB
set_option maxHeartbeats 4000000 in
set_option maxRecDepth 100000 in
theorem c_X11_retracts (l : Launch) (G : gT) (h r : Nat → Nat) (n mc pg : Nat) (S : CT) (hS : HV n mc S) (hpg : 4 * pg < n) : MI l yX11_retracts cX11_retracts 5 (some FieldType.int) { frames := 1, cells := 4, slots := 120, locals := 40 } [.ref (h 0), .int (nI pg)] G (hdW G h r n mc S) (fun r9 (u : (Nat → Nat) × (Nat → Nat) × CT) => u.1 0 = h 0 ∧ ((r9 = -9 ∧ ¬ s_canPay S pg n ∧ u.2.2 = S) ∨ (r9 = (s_paidForPage S pg n) ∧ s_canPay S pg n ∧ u.2.2 = s_takeBack S pg n 3))) (fun u => hdW G u.1 u.2.1 (bcO u.2.2) (mcO u.2.2) u.2.2) := by
  refine jm_i (own := RX11) (by decide) rfl (Nat.le_of_ble_eq_true rfl) (fun x hl hC hR hN => ?_)
  subst hl
  have hn := hS.1.2
  refine J_iconst (v := 0) hC dX11_retracts_0 rfl ?_
  refine J_istore_n hC [(2, .int 0), (0, .ref (h 0)), (1, .int (nI pg))] dX11_retracts_1 rfl (by decide) rfl ?_
  refine J_aload_n hC dX11_retracts_2 1 rfl rfl ?_
  refine J_get (v := .ref (h 9)) hC wu_X11 rfl dX11_retracts_3 0 8 (by decide) wf_X11_35 rfl rfl ?_
  refine J_alen hC dX11_retracts_6 9 rfl (t := 4) rfl ?_
  dsimp only
  refine J_iconst (v := 4) hC dX11_retracts_7 rfl ?_
  refine J_iload_n hC dX11_retracts_8 2 rfl rfl ?_
  refine J_imul (v := nI (4 * pg)) hC dX11_retracts_9 (pk_mul 4 pg) ?_
  refine J_iconst (v := 4) hC dX11_retracts_10 rfl ?_
  refine J_iadd (v := nI (4 * pg + 4)) hC dX11_retracts_11 (nI_add (4 * pg) 4) ?_
  refine J_mmin (v := nI (min n (4 * pg + 4))) hC dX11_retracts_12 wl_X11_79 (Nat.le_of_ble_eq_true rfl) (Nat.le_of_ble_eq_true rfl) (Nat.le_of_ble_eq_true rfl) (Nat.le_of_ble_eq_true rfl) (nmin_nI (by omega) (by omega)) ?_
  obtain ⟨e9, he9⟩ : ∃ z, z = min n (4 * pg + 4) := ⟨_, rfl⟩
  rw [← he9]
  refine J_istore_n hC [(3, .int (nI e9)), (2, .int 0), (0, .ref (h 0)), (1, .int (nI pg))] dX11_retracts_15 rfl (by decide) rfl ?_
  refine J_iconst (v := 4) hC dX11_retracts_16 rfl ?_
  refine J_iload_n hC dX11_retracts_17 3 rfl rfl ?_
  refine J_imul (v := nI (4 * pg)) hC dX11_retracts_18 (pk_mul 4 pg) ?_
  refine J_istore hC [(4, .int (nI (4 * pg))), (3, .int (nI e9)), (2, .int 0), (0, .ref (h 0)), (1, .int (nI pg))] dX11_retracts_19 (by decide) rfl ?_
  have p45 : J x G (hdW G h r n mc S) 0 0 [(4, .int (nI e9)), (3, .int (nI e9)), (2, .int (s_paidForPage S pg n)), (0, .ref (h 0)), (1, .int (nI pg))] [] 45 := by
    refine J_iload_n hC dX11_retracts_45 2 rfl rfl ?_
    refine J_aload_n hC dX11_retracts_46 3 rfl rfl ?_
    refine J_get (v := .int (S 16 1)) hC wu_X11 rfl dX11_retracts_47 0 12 (by decide) wf_X11_82 rfl rfl ?_
    refine J_ic_le (tgt := 56) hC dX11_retracts_50 (by decide) (fun c1 => ?_) (fun c1 => ?_)
    · have hcp : s_canPay S pg n := fun h9 => Int32.not_le.mpr h9 c1
      refine J_aload_n hC dX11_retracts_56 3 rfl rfl ?_
      refine J_dup hC dX11_retracts_57 rfl ?_
      refine J_get (v := .int (S 16 1)) hC wu_X11 rfl dX11_retracts_58 0 12 (by decide) wf_X11_82 rfl rfl ?_
      refine J_iload_n hC dX11_retracts_61 2 rfl rfl ?_
      refine J_isub (v := S 16 1 - (s_paidForPage S pg n)) hC dX11_retracts_62 rfl ?_
      refine J_put (ws' := hdW G h r n mc (us S 16 1 (S 16 1 - (s_paidForPage S pg n)))) hC wu_X11 rfl tyX11_ok nmX11 dX11_retracts_63 0 12 (by decide) wf_X11_82 rfl rfl (Nat.le_of_ble_eq_true rfl) rfl rfl rfl ?_
      refine J_iload_n hC dX11_retracts_66 1 rfl rfl ?_
      refine J_iconst (v := 1) hC dX11_retracts_67 rfl ?_
      refine J_isub (v := pmm e9) hC dX11_retracts_68 (pmm_1 (by omega)) ?_
      refine J_istore hC [(4, .int (pmm e9)), (3, .int (nI e9)), (2, .int (s_paidForPage S pg n)), (0, .ref (h 0)), (1, .int (nI pg))] dX11_retracts_69 (by decide) rfl ?_
      obtain ⟨S0, hS0⟩ : ∃ z, z = (us S 16 1 (S 16 1 - (s_paidForPage S pg n))) := ⟨_, rfl⟩
      rw [← hS0]
      have hrow : ∀ k, k < n → ∃ v, v < 3 ∧ S0 10 k = nI v := fun k hk => by obtain ⟨v, s9, h1, h2, h3, h4⟩ := hS.2.2.2.1 k hk; exact ⟨v, h1, by rw [hS0]; exact h3⟩
      have key : ∀ (f m : Nat) (hh rr : Nat → Nat), e9 - 4 * pg - m < f → m ≤ e9 - 4 * pg → hh 0 = h 0 → J x G (hdW G hh rr (n - m) mc (h_tb S0 n e9 m)) m (30 * m) [(4, .int (pmm (e9 - m))), (3, .int (nI e9)), (2, .int (s_paidForPage S pg n)), (0, .ref (hh 0)), (1, .int (nI pg))] [] 71 := by
        intro f
        induction f with
        | zero => exact fun _ _ _ h => absurd h (Nat.not_lt_zero _)
        | succ f ih =>
          intro m hh rr hf hm e0
          refine J_iload hC dX11_retracts_71 0 rfl ?_
          refine J_iconst (v := 4) hC dX11_retracts_73 rfl ?_
          refine J_iload_n hC dX11_retracts_74 4 rfl rfl ?_
          refine J_imul (v := nI (4 * pg)) hC dX11_retracts_75 (pk_mul 4 pg) ?_
          refine J_ic_lt (tgt := 142) hC dX11_retracts_76 (by decide) (fun c2 => ?_) (fun c2 => ?_)
          · have hme : m = e9 - 4 * pg := by have h9 := (pmm_lt (by omega) (by omega)).mp c2; omega
            refine J_iload_n hC dX11_retracts_142 2 rfl rfl ?_
            obtain ⟨hb9, hm9⟩ := tb_cnt hS hpg
            rw [← he9] at hb9
            refine J_hd (S' := s_takeBack S pg n 3) (by rw [hme, hS0, he9]; exact he_tb hS hpg) ?_
            refine J_iret hC hR dX11_retracts_143 rfl (hh, rr, s_takeBack S pg n 3) ⟨e0, Or.inr ⟨rfl, hcp, rfl⟩⟩ ?_ (by show m ≤ 4; omega) (by show 30 * m ≤ 120; omega)
            show _ = hdW G hh rr (bcO (s_takeBack S pg n 3)) (mcO (s_takeBack S pg n 3)) (s_takeBack S pg n 3)
            rw [hb9, hm9, hme]
          · have hlt : 4 * pg < e9 - m := Nat.lt_of_not_le (fun h9 => c2 ((pmm_lt (by omega) (by omega)).mpr h9))
            obtain ⟨k, hk⟩ : ∃ k, e9 - m = k + 1 := ⟨e9 - m - 1, by omega⟩
            obtain ⟨T, hT⟩ : ∃ z, z = h_tb S0 n e9 m := ⟨_, rfl⟩
            have hkn : k < n - m := by omega
            obtain ⟨v, hv3, ev⟩ := tb_rows (n := n) (e := e9) (by omega) hrow m (by omega) k hkn
            rw [← hT] at ev ⊢
            obtain ⟨nn, hnn⟩ : ∃ z, z = n - m := ⟨_, rfl⟩
            rw [← hnn] at hkn ⊢
            have hnn30 : nn ≤ 30 := by omega
            rw [hk, pmm_s]
            refine J_aload_n hC dX11_retracts_79 3 rfl rfl ?_
            refine J_get (v := .ref (hh 2)) hC wu_X11 rfl dX11_retracts_80 0 1 (by decide) wf_X11_13 rfl rfl ?_
            refine J_aload_n hC dX11_retracts_83 3 rfl rfl ?_
            refine J_get (v := .ref (hh 9)) hC wu_X11 rfl dX11_retracts_84 0 8 (by decide) wf_X11_35 rfl rfl ?_
            refine J_iload hC dX11_retracts_87 0 rfl ?_
            refine J_gald (b := rr k) (i := k) hC dX11_retracts_89 9 rfl hkn (by omega) rfl ?_
            refine J_iconst (v := 0) hC dX11_retracts_90 rfl ?_
            refine J_iald (i := 0) (v := T 10 k) hC dX11_retracts_91 (11 + k) (hd_get hkn) (by decide) (by decide) rfl ?_
            refine J_topi ev ?_
            refine J_iconst (v := 0) hC dX11_retracts_92 rfl ?_
            refine J_aload_n hC dX11_retracts_93 3 rfl rfl ?_
            refine J_get (v := .ref (hh 2)) hC wu_X11 rfl dX11_retracts_94 0 1 (by decide) wf_X11_13 rfl rfl ?_
            refine J_aload_n hC dX11_retracts_97 3 rfl rfl ?_
            refine J_get (v := .ref (hh 9)) hC wu_X11 rfl dX11_retracts_98 0 8 (by decide) wf_X11_35 rfl rfl ?_
            refine J_iload hC dX11_retracts_101 0 rfl ?_
            refine J_gald (b := rr k) (i := k) hC dX11_retracts_103 9 rfl hkn (by omega) rfl ?_
            refine J_iconst (v := 0) hC dX11_retracts_104 rfl ?_
            refine J_iald (i := 0) (v := T 10 k) hC dX11_retracts_105 (11 + k) (hd_get hkn) (by decide) (by decide) rfl ?_
            refine J_topi ev ?_
            refine J_iald (i := v) (v := T 2 v) hC dX11_retracts_106 2 rfl hv3 (by decide) rfl ?_
            refine J_iconst (v := 5) hC dX11_retracts_107 rfl ?_
            refine J_isub (v := T 2 v - 5) hC dX11_retracts_108 rfl ?_
            refine J_mmax (v := if 0 < T 2 v - 5 then T 2 v - 5 else 0) hC dX11_retracts_109 wl_X11_73 (Nat.le_of_ble_eq_true rfl) (Nat.le_of_ble_eq_true rfl) (show m ≤ 4 by omega) (show 30 * m ≤ 120 by omega) rfl ?_
            refine J_iast (i := v) (ws' := hdW G hh rr nn mc (us T 2 v (if 0 < T 2 v - 5 then T 2 v - 5 else 0))) hC dX11_retracts_112 2 rfl hv3 (by decide) rfl ?_
            refine J_aload_n hC dX11_retracts_113 3 rfl rfl ?_
            refine J_dup hC dX11_retracts_114 rfl ?_
            refine J_get (v := .int ((us T 2 v (if 0 < T 2 v - 5 then T 2 v - 5 else 0)) 16 4)) hC wu_X11 rfl dX11_retracts_115 0 15 (by decide) wf_X11_105 rfl rfl ?_
            refine J_iconst (v := 1) hC dX11_retracts_118 rfl ?_
            refine J_iadd (v := T 16 4 + 1) hC dX11_retracts_119 rfl ?_
            refine J_put (ws' := hdW G hh rr nn mc (us (us T 2 v (if 0 < T 2 v - 5 then T 2 v - 5 else 0)) 16 4 (T 16 4 + 1))) hC wu_X11 rfl tyX11_ok nmX11 dX11_retracts_120 0 15 (by decide) wf_X11_105 rfl rfl (Nat.le_of_ble_eq_true rfl) rfl rfl rfl ?_
            have hX : us (us T 2 v (if 0 < T 2 v - 5 then T 2 v - 5 else 0)) 16 4 (T 16 4 + 1) = h_tb1 k T := by rw [h_tb1, ev, nI_clamp (by omega)]
            rw [hX]
            obtain ⟨X, hXd⟩ : ∃ z, z = h_tb1 k T := ⟨_, rfl⟩
            rw [← hXd]
            refine J_aload_n hC dX11_retracts_123 3 rfl rfl ?_
            refine J_aload_n hC dX11_retracts_124 3 rfl rfl ?_
            refine J_get (v := .ref (hh 9)) hC wu_X11 rfl dX11_retracts_125 0 8 (by decide) wf_X11_35 rfl rfl ?_
            refine J_iload hC dX11_retracts_128 0 rfl ?_
            obtain ⟨D, hD⟩ : ∃ D, D = s_remove X k (k + 1) nn := ⟨_, rfl⟩
            refine J_callSa hC dX11_retracts_130 wl_X11_88 wi_X11 yi_X11_without ((fr_a (W1 := fun b => (hh 0, .inr (11, hdO hh X)) :: (hdW G (hup hh 9 b) (rsk rr k) (nn - 1) mc D).tail ++ [(rr k, .inl (gc G 0, 5, .inl (rwf X k))), (hh 9, .inl (gc G 4, nn, .inr (.inr (.inr (.inr (fun k => some (rr k)))))))]) (wr := (hdF G hh rr nn mc X).take 9 ++ [((hh 10, .inl (gc G 0, mc, .inl (X 15))) : Nat × va_E)]) (c_X11_without _ G (hh 9) nn k rr X hnn30 hkn) (pm_in ((hdF G hh rr nn mc X).take 9) (rwW G rr nn X) (hh 9, .inl (gc G 4, nn, .inr (.inr (.inr (.inr (fun k => some (rr k))))))) (hh 10, .inl (gc G 0, mc, .inl (X 15)))) (fun b => by rw [hD]; exact pm_wo ((hdF G hh rr nn mc X).take 9) (rwW G rr nn X) (rwW G (rsk rr k) (nn - 1) (s_remove X k (k + 1) nn)) _ _ _ _ (rw_split G rr nn k X hkn)))) rfl rfl ⟨Nat.le_of_ble_eq_true rfl, Nat.le_of_ble_eq_true rfl⟩ (Nat.le_of_ble_eq_true rfl) (show m + 1 ≤ 4 by omega) (show 30 * m + 30 ≤ 120 by omega) (fun b hb9 => ?_)
            refine J_put (ws' := hdW G (hup hh 9 b) (rsk rr k) (nn - 1) mc D ++ [(rr k, .inl (gc G 0, 5, .inl (rwf X k))), (hh 9, .inl (gc G 4, nn, .inr (.inr (.inr (.inr (fun k => some (rr k)))))))]) hC wu_X11 rfl tyX11_ok nmX11 dX11_retracts_133 0 8 (by decide) wf_X11_35 rfl rfl (Nat.le_of_ble_eq_true rfl) rfl rfl (by rw [hD]; rfl) ?_
            refine J_sub (ws' := hdW G (hup hh 9 b) (rsk rr k) (nn - 1) mc D) [(rr k, .inl (gc G 0, 5, .inl (rwf X k))), (hh 9, .inl (gc G 4, nn, .inr (.inr (.inr (.inr (fun k => some (rr k)))))))] (List.Perm.refl _) ?_
            refine J_iinc hC [(4, .int (pmm k)), (3, .int (nI e9)), (2, .int (s_paidForPage S pg n)), (0, .ref (hh 0)), (1, .int (nI pg))] dX11_retracts_136 0 rfl (pmm_d k) (by decide) rfl ?_
            refine J_goto (tgt := 71) hC dX11_retracts_139 (by decide) ?_
            have hDD : D = h_tb S0 n e9 (m + 1) := by rw [hD, hXd, hT, hnn]; show _ = h_tbs (n - m) (e9 - m - 1) (h_tb S0 n e9 m); rw [h_tbs, show e9 - m - 1 = k by omega]
            rw [hDD, show k = e9 - (m + 1) by omega, show nn - 1 = n - (m + 1) by omega]
            exact ih (m + 1) (hup hh 9 b) _ (by omega) (by omega) e0
      exact key _ 0 h r (Nat.lt_succ_self _) (Nat.zero_le _) rfl
    · refine J_bipush (v := -9) hC dX11_retracts_53 (by decide +kernel) ?_
      exact J_iret hC hR dX11_retracts_55 rfl (h, r, S) ⟨rfl, Or.inl ⟨rfl, fun h9 => h9 (Int32.not_le.mp c1), rfl⟩⟩ (by show _ = hdW G h r (bcO S) (mcO S) S; rw [hS.bc, hS.mc]) (by decide) (by decide)
  have key1 : ∀ (f i : Nat) (acc : Int32), e9 - i < f → 4 * pg ≤ i → i ≤ e9 → (s_paidForPage S pg n) = fo (fun i s => s + S 14 i) i (e9 - i) acc → J x G (hdW G h r n mc S) 0 0 [(4, .int (nI i)), (3, .int (nI e9)), (2, .int acc), (0, .ref (h 0)), (1, .int (nI pg))] [] 21 := by
    intro f
    induction f with
    | zero => exact fun _ _ h => absurd h (Nat.not_lt_zero _)
    | succ f ih =>
      intro i acc hf h4 hi hacc
      refine J_iload hC dX11_retracts_21 0 rfl ?_
      refine J_iload_n hC dX11_retracts_23 1 rfl rfl ?_
      refine J_ic_geN (a := i) (b := e9) (tgt := 45) hC dX11_retracts_24 (by decide) (by omega) (by omega) (fun c1 => ?_) (fun c1 => ?_)
      · obtain rfl : i = e9 := by omega
        rw [Nat.sub_self] at hacc
        have hacc2 : acc = (s_paidForPage S pg n) := hacc.symm
        rw [hacc2]
        exact p45
      · refine J_iload_n hC dX11_retracts_27 2 rfl rfl ?_
        refine J_aload_n hC dX11_retracts_28 3 rfl rfl ?_
        refine J_get (v := .ref (h 9)) hC wu_X11 rfl dX11_retracts_29 0 8 (by decide) wf_X11_35 rfl rfl ?_
        refine J_iload hC dX11_retracts_32 0 rfl ?_
        refine J_gald (b := r i) (i := i) hC dX11_retracts_34 9 rfl (by omega) (by omega) rfl ?_
        refine J_iconst (v := 4) hC dX11_retracts_35 rfl ?_
        refine J_iald (i := 4) (v := S 14 i) hC dX11_retracts_36 (11 + i) (hd_get (by omega)) (by decide) (by decide) rfl ?_
        refine J_iadd (v := acc + S 14 i) hC dX11_retracts_37 rfl ?_
        refine J_istore_n hC [(2, .int (acc + S 14 i)), (4, .int (nI i)), (3, .int (nI e9)), (0, .ref (h 0)), (1, .int (nI pg))] dX11_retracts_38 rfl (by decide) rfl ?_
        refine J_iinc hC [(4, .int (nI (i + 1))), (2, .int (acc + S 14 i)), (3, .int (nI e9)), (0, .ref (h 0)), (1, .int (nI pg))] dX11_retracts_39 1 rfl (nI_inc _) (by decide) rfl ?_
        refine J_goto (tgt := 21) hC dX11_retracts_42 (by decide) ?_
        refine J_lv [0, 2, 1, 3, 4] rfl ?_
        exact ih (i + 1) (acc + S 14 i) (by omega) (by omega) (by omega) (hacc.trans (fo_step (by omega)))
  exact key1 _ (4 * pg) 0 (Nat.lt_succ_self _) (Nat.le_refl _) (by omega) (by rw [he9]; rfl)


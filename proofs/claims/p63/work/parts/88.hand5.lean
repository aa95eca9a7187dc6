/-! THE HAND: acts -/
theorem dle1 {d : Int32} {dy : Nat} (h : dy ≤ 1000) : d ≤ nI dy ↔ d < nI dy + 1 := by
  rw [nI_1, Int32.le_iff_toInt_le, Int32.lt_iff_toInt_lt, nI_toInt (by omega), nI_toInt (by omega)]
  omega
def hDay (S : CT) (z : Nat) : Int32 := S 16 0 + nI (z % 36) - 2
def hPrint (n : Nat) (S : CT) (y z : Nat) : Int32 × CT := if s_refusal S (nI (y % 3)) (hDay S z) n = 0 then (nI (n / 4), s_bookAdd S (nI (y % 3)) (hDay S z) (nI (z / 64 % 3)) n) else (-9, S)
def hRet (n : Nat) (S : CT) (pg : Nat) : Int32 × CT := if S 16 1 < s_paidForPage S pg n then (-9, S) else (s_paidForPage S pg n, s_takeBack S pg n 3)
def hSet (row v : Nat) (w : Int32) (S : CT) : Int32 × CT := (S row v, us S row v w)
def hOdds (v : Nat) (w : Int32) (S : CT) : Int32 × CT := if S 8 0 + S 8 1 + S 8 2 - S 8 v + w = 0 then (-9, S) else (S 8 v, us S 8 v w)
def hPass (m : Nat) (S : CT) : Int32 × CT := (s_days m S 16 3 - S 16 3, s_days m S)
def hM (q : Nat) : Nat := if q < 29 then 3 else 25
/-- what an act answers and leaves: y, z, q are the code's number over 32, over 512, and its rest -/
def hActs (n : Nat) (S : CT) (y z q : Nat) : Int32 × CT := if 12 ≤ q ∧ q < 15 ∧ n = 0 then (-8, S) else if q < 12 then hPrint n S y z else if q < 15 then hRet n S (y % ((n + 3) / 4)) else if q = 15 then hSet 2 (y % 3) (nI (z % 101)) S else if q = 16 then hSet 1 (y % 3) (nI (1 + z % 99)) S else if q < 19 then hOdds (y % 3) (nI (z % 21)) S else hPass (z % hM q + 1) S
theorem tb_i {q : Nat} (h : q < 2 ^ 31) : ((nI q).toInt - 0).toNat = q := by rw [nI_toInt h]; omega
theorem tb_lo {q : Nat} (h : q < 2 ^ 31) : ¬ (nI q).toInt < 0 := by rw [nI_toInt h]; omega
theorem tb_hi {q : Nat} (h : q < 19) : ¬ (18 : Int) < (nI q).toInt := by rw [nI_toInt (by omega)]; omega
theorem days_suc (S : CT) : ∀ m, s_days (m + 1) S = s_day (s_days m S) := by
  have g : ∀ m i T, fo s_dayB i (m + 1) T = s_day (fo s_dayB i m T) := by
    intro m
    induction m with
    | zero => exact fun _ _ => rfl
    | succ m ih =>
      intro i T
      exact ih (i + 1) (s_dayB i T)
  exact fun m => g m 0 S
/-- the new row's world -/
def rad (r : Nat → Nat) (n w : Nat) : Nat → Nat := fun k => if k < n then r k else w
theorem rw_add (G : gT) (r : Nat → Nat) (n w : Nat) (S : CT) (v d t : Int32) {fw : Nat → Int32} (hf : fw = upd (upd (upd (upd (upd (fun _ => 0) 0 v) 1 d) 2 t) 3 0) 4 0) : rwW G (rad r n w) (n + 1) (s_bookAdd S v d t n) = rwW G r n S ++ [(w, .inl (gc G 0, 5, .inl fw))] := by
  unfold rwW
  rw [List.range_succ, List.map_append, List.map_singleton]
  congr 1
  · refine List.map_congr_left fun k hk => ?_
    have hk' := List.mem_range.mp hk
    have e : rwf (s_bookAdd S v d t n) k = rwf S k := funext fun j => by
      have hne : k ≠ n := by omega
      simp [rwf, s_bookAdd, us, upd, hne]
    rw [e, rad, if_pos hk']
  · rw [rad, if_neg (Nat.lt_irrefl n)]
    have e : rwf (s_bookAdd S v d t n) n = fw := funext fun j => by
      subst hf
      have r0 : s_bookAdd S v d t n 10 n = v := if_pos rfl
      have r1 : s_bookAdd S v d t n 11 n = d := if_pos rfl
      have r2 : s_bookAdd S v d t n 12 n = t := if_pos rfl
      have r3 : s_bookAdd S v d t n 13 n = 0 := if_pos rfl
      have r4 : s_bookAdd S v d t n 14 n = 0 := if_pos rfl
      unfold rwf
      rw [r0, r1, r2, r3, r4]
      unfold upd
      by_cases h0 : j = 0
      · subst h0; rfl
      · by_cases h1 : j = 1
        · subst h1; rfl
        · by_cases h2 : j = 2
          · subst h2; rfl
          · by_cases h3 : j = 3
            · subst h3; rfl
            · by_cases h4 : j = 4
              · subst h4; rfl
              · simp [h0, h1, h2, h3, h4]
    rw [e]
theorem pm_wi2 {α : Type} (A R : List α) (g c w : α) : (w :: ((A ++ [g, c]) ++ R)).Perm ((g :: w :: R) ++ (A ++ [c])) := by
  refine permS (fun e => ?_)
  simp only [List.map_append, List.map_cons, List.map_nil, List.sum_append, List.sum_cons, List.sum_nil]
  omega
theorem pm_wo2 {α : Type} (A R : List α) (b g c w : α) : ((b :: g :: w :: R) ++ (A ++ [c])).Perm ((A ++ b :: c :: (R ++ [w])) ++ [g]) := by
  refine permS (fun e => ?_)
  simp only [List.map_append, List.map_cons, List.map_nil, List.sum_append, List.sum_cons, List.sum_nil]
  omega
set_option maxHeartbeats 4000000 in
set_option maxRecDepth 100000 in
theorem c_X11_acts (l : Launch) (G : gT) (h r : Nat → Nat) (n mc xx y z q : Nat) (S : CT) (hx : xx < 2 ^ 31) (hy : y = xx / 32) (hz : z = y / 16) (hq : q = xx % 32) (hS : HV n mc S) (hday : ∃ dy, S 16 0 = nI dy ∧ dy + 25 ≤ 1000) : MI l yX11_acts cX11_acts 7 (some FieldType.int) { frames := 3, cells := 150, slots := 3000, locals := 120 } [.ref (h 0), .int (nI xx)] G (hdW G h r n mc S) (fun r9 (u : (Nat → Nat) × (Nat → Nat) × CT) => u.1 0 = h 0 ∧ r9 = (hActs n S y z q).1 ∧ u.2.2 = (hActs n S y z q).2) (fun u => hdW G u.1 u.2.1 (bcO u.2.2) (mcO u.2.2) u.2.2) := by
  refine jm_i (own := RX11) (by decide) rfl (Nat.le_of_ble_eq_true rfl) (fun x hl hC hR hN => ?_)
  subst hl
  have hn := hS.1.2
  refine J_iload_n hC dX11_acts_0 1 rfl rfl ?_
  refine J_bipush (v := 32) hC dX11_acts_1 rfl ?_
  refine J_idiv (v := nI y) hC dX11_acts_3 (by decide) (by rw [hy]; exact nDv hx (by decide) (by decide)) ?_
  refine J_istore_n hC [(2, .int (nI y)), (0, .ref (h 0)), (1, .int (nI xx))] dX11_acts_4 rfl (by decide) rfl ?_
  refine J_iload_n hC dX11_acts_5 0 rfl rfl ?_
  refine J_bipush (v := 16) hC dX11_acts_6 rfl ?_
  refine J_idiv (v := nI z) hC dX11_acts_8 (by decide) (by rw [hz]; exact nDv (by omega) (by decide) (by decide)) ?_
  refine J_istore_n hC [(3, .int (nI z)), (2, .int (nI y)), (0, .ref (h 0)), (1, .int (nI xx))] dX11_acts_9 rfl (by decide) rfl ?_
  refine J_aload_n hC dX11_acts_10 2 rfl rfl ?_
  refine J_get (v := .ref (h 9)) hC wu_X11 rfl dX11_acts_11 0 8 (by decide) wf_X11_35 rfl rfl ?_
  refine J_alen hC dX11_acts_14 9 rfl (t := 4) rfl ?_
  dsimp only
  refine J_iconst (v := 3) hC dX11_acts_15 rfl ?_
  refine J_iadd (v := nI (n + 3)) hC dX11_acts_16 (nI_add n 3) ?_
  refine J_iconst (v := 4) hC dX11_acts_17 rfl ?_
  refine J_idiv (v := nI ((n + 3) / 4)) hC dX11_acts_18 (by decide) (nDv (by omega) (by decide) (by decide)) ?_
  refine J_istore hC [(4, .int (nI ((n + 3) / 4))), (3, .int (nI z)), (2, .int (nI y)), (0, .ref (h 0)), (1, .int (nI xx))] dX11_acts_19 (by decide) rfl ?_
  have p47 : ¬ (12 ≤ q ∧ q < 15 ∧ n = 0) → J x G (hdW G h r n mc S) 0 0 [(4, .int (nI ((n + 3) / 4))), (3, .int (nI z)), (2, .int (nI y)), (0, .ref (h 0)), (1, .int (nI xx))] [] 47 := by
    intro hg
    refine J_iload_n hC dX11_acts_47 4 rfl rfl ?_
    refine J_bipush (v := 32) hC dX11_acts_48 rfl ?_
    refine J_irem (v := nI q) hC dX11_acts_50 (by decide) (by rw [hq]; exact nMd hx (by decide) (by decide)) ?_
    have hq32 : q < 32 := by omega
    rcases (show q < 12 ∨ (12 ≤ q ∧ q < 15) ∨ q = 15 ∨ q = 16 ∨ (17 ≤ q ∧ q < 19) ∨ 19 ≤ q by omega) with c | c | c | c | c | c
    · refine J_tabIn (tgt := 140) hC dX11_acts_51 (tb_lo (by omega)) (tb_hi (by omega)) (by rw [tb_i (by omega)]; exact (by decide : ∀ i : Fin 12, (#[89, 89, 89, 89, 89, 89, 89, 89, 89, 89, 89, 89, 200, 200, 200, 209, 234, 261, 261] : Array Int)[i.1]? = some 89) ⟨q, c⟩) (by decide) ?_
      obtain ⟨dy, hdy, hd0⟩ := hday
      have hA : hActs n S y z q = hPrint n S y z := by rw [hActs, if_neg hg, if_pos c]
      refine J_aload_n hC dX11_acts_140 3 rfl rfl ?_
      refine J_get (v := .int (S 16 0)) hC wu_X11 rfl dX11_acts_141 0 11 (by decide) wf_X11_70 rfl rfl ?_
      refine J_iload_n hC dX11_acts_144 1 rfl rfl ?_
      refine J_bipush (v := 36) hC dX11_acts_145 rfl ?_
      refine J_irem (v := nI (z % 36)) hC dX11_acts_147 (by decide) (nMd (by omega) (by decide) (by decide)) ?_
      refine J_iadd (v := S 16 0 + nI (z % 36)) hC dX11_acts_148 rfl ?_
      refine J_iconst (v := 2) hC dX11_acts_149 rfl ?_
      refine J_isub (v := hDay S z) hC dX11_acts_150 rfl ?_
      refine J_istore hC [(6, .int (hDay S z)), (4, .int (nI ((n + 3) / 4))), (3, .int (nI z)), (2, .int (nI y)), (0, .ref (h 0)), (1, .int (nI xx))] dX11_acts_151 (by decide) rfl ?_
      obtain ⟨dd, hdd⟩ : ∃ z9, z9 = hDay S z := ⟨_, rfl⟩
      rw [hPrint, ← hdd] at hA
      rw [← hdd]
      have p196 : ¬ s_refusal S (nI (y % 3)) dd n = 0 → J x G (hdW G h r n mc S) 0 0 [(6, .int dd), (4, .int (nI ((n + 3) / 4))), (3, .int (nI z)), (2, .int (nI y)), (0, .ref (h 0)), (1, .int (nI xx))] [] 196 := by
        intro hr
        refine J_bipush (v := -9) hC dX11_acts_196 (by decide +kernel) ?_
        rw [if_neg hr] at hA
        exact J_iret hC hR dX11_acts_198 rfl (h, r, S) (by rw [hA]; exact ⟨rfl, rfl, rfl⟩) (by show hdW G h r n mc S = hdW G h r (bcO S) (mcO S) S; rw [hS.bc, hS.mc]) (by decide) (by decide)
      refine J_iload hC dX11_acts_153 0 rfl ?_
      refine J_aload_n hC dX11_acts_155 4 rfl rfl ?_
      refine J_get (v := .int (S 16 0)) hC wu_X11 rfl dX11_acts_156 0 11 (by decide) wf_X11_70 rfl rfl ?_
      refine J_ic_le (tgt := 196) hC dX11_acts_159 (by decide) (fun c1 => p196 ?_) (fun c1 => ?_)
      · rw [s_refusal, if_neg (fun h9 => h9.1 (by rw [hdy] at c1 ⊢; exact (dle1 (by omega)).mp c1))]; decide
      refine J_iload hC dX11_acts_162 0 rfl ?_
      refine J_aload_n hC dX11_acts_164 4 rfl rfl ?_
      refine J_get (v := .int (S 16 0)) hC wu_X11 rfl dX11_acts_165 0 11 (by decide) wf_X11_70 rfl rfl ?_
      refine J_bipush (v := 30) hC dX11_acts_168 rfl ?_
      refine J_iadd (v := S 16 0 + 30) hC dX11_acts_170 rfl ?_
      refine J_ic_gt (tgt := 196) hC dX11_acts_171 (by decide) (fun c2 => p196 ?_) (fun c2 => ?_)
      · rw [s_refusal, if_neg (fun h9 => h9.2 c2)]; decide
      have c12 : ¬ dd < S 16 0 + 1 ∧ ¬ S 16 0 + 30 < dd := ⟨fun h9 => c1 (by rw [hdy] at h9 ⊢; exact (dle1 (by omega)).mpr h9), c2⟩
      refine J_aload_n hC dX11_acts_174 4 rfl rfl ?_
      refine J_iload_n hC dX11_acts_175 3 rfl rfl ?_
      refine J_iconst (v := 3) hC dX11_acts_176 rfl ?_
      refine J_irem (v := nI (y % 3)) hC dX11_acts_177 (by decide) (nMd (by omega) (by decide) (by decide)) ?_
      refine J_iload hC dX11_acts_178 0 rfl ?_
      refine J_callVi hC dX11_acts_180 wl_X11_85 yi_X11_find (c_X11_find _ G h r n mc S (nI (y % 3)) dd hn) rfl rfl 0 11 rfl rfl ⟨Nat.le_of_ble_eq_true rfl, Nat.le_of_ble_eq_true rfl⟩ (Nat.le_of_ble_eq_true rfl) (Nat.le_of_ble_eq_true rfl) (Nat.le_of_ble_eq_true rfl) (fun q9 u9 hq9 => ?_)
      subst hq9
      refine J_if_ge (tgt := 196) hC dX11_acts_183 (by decide) (fun c3 => p196 ?_) (fun c3 => ?_)
      · rw [s_refusal, if_pos c12, if_neg (fun h9 => by rw [h9] at c3; exact absurd c3 (by decide))]; decide
      have c4 : s_placeOf S (nI (y % 3)) dd n = -1 := by
        rcases placeOf_cases S (nI (y % 3)) dd n with e | ⟨k, hk, e, -, -⟩
        · exact e
        · exact absurd (by rw [e]; exact nI_le (a := 0) (by omega) (by omega)) c3
      refine J_aload_n hC dX11_acts_186 4 rfl rfl ?_
      refine J_get (v := .ref (h 9)) hC wu_X11 rfl dX11_acts_187 0 8 (by decide) wf_X11_35 rfl rfl ?_
      refine J_alen hC dX11_acts_190 9 rfl (t := 4) rfl ?_
      refine J_bipush (v := 30) hC dX11_acts_191 rfl ?_
      refine J_ic_neN (a := n) (b := 30) (tgt := 199) hC dX11_acts_193 (by decide) (by omega) (by decide) (fun c5 => ?_) (fun c5 => p196 ?_)
      · have hr0 : s_refusal S (nI (y % 3)) dd n = 0 := by rw [s_refusal, if_pos c12, if_pos c4, if_pos (by omega)]
        rw [if_pos hr0] at hA
        refine J_aload_n hC dX11_acts_199 4 rfl rfl ?_
        refine J_aload_n hC dX11_acts_200 4 rfl rfl ?_
        refine J_get (v := .ref (h 9)) hC wu_X11 rfl dX11_acts_201 0 8 (by decide) wf_X11_35 rfl rfl ?_
        refine J_iconst (v := 5) hC dX11_acts_204 rfl ?_
        refine J_newI hC dX11_acts_205 (by decide) (Nat.le_of_ble_eq_true rfl) (Nat.le_of_ble_eq_true rfl) (fun w9 => ?_)
        refine J_perm (ws' := (w9, .inl (gc G 0, 5, .inl (fun _ => 0))) :: hdW G h r n mc S) List.perm_append_comm ?_
        refine J_dup hC dX11_acts_207 rfl ?_
        refine J_iconst (v := 0) hC dX11_acts_208 rfl ?_
        refine J_iload_n hC dX11_acts_209 3 rfl rfl ?_
        refine J_iconst (v := 3) hC dX11_acts_210 rfl ?_
        refine J_irem (v := nI (y % 3)) hC dX11_acts_211 (by decide) (nMd (by omega) (by decide) (by decide)) ?_
        refine J_iast (i := 0) (ws' := (w9, .inl (gc G 0, 5, .inl (upd (fun _ => 0) 0 (nI (y % 3))))) :: hdW G h r n mc S) hC dX11_acts_212 0 rfl (by decide) (by decide) rfl ?_
        refine J_dup hC dX11_acts_213 rfl ?_
        refine J_iconst (v := 1) hC dX11_acts_214 rfl ?_
        refine J_iload hC dX11_acts_215 0 rfl ?_
        refine J_iast (i := 1) (ws' := (w9, .inl (gc G 0, 5, .inl (upd (upd (fun _ => 0) 0 (nI (y % 3))) 1 dd))) :: hdW G h r n mc S) hC dX11_acts_217 0 rfl (by decide) (by decide) rfl ?_
        refine J_dup hC dX11_acts_218 rfl ?_
        refine J_iconst (v := 2) hC dX11_acts_219 rfl ?_
        refine J_iload_n hC dX11_acts_220 2 rfl rfl ?_
        refine J_bipush (v := 64) hC dX11_acts_221 rfl ?_
        refine J_idiv (v := nI (z / 64)) hC dX11_acts_223 (by decide) (nDv (by omega) (by decide) (by decide)) ?_
        refine J_iconst (v := 3) hC dX11_acts_224 rfl ?_
        refine J_irem (v := nI (z / 64 % 3)) hC dX11_acts_225 (by decide) (nMd (by omega) (by decide) (by decide)) ?_
        refine J_iast (i := 2) (ws' := (w9, .inl (gc G 0, 5, .inl (upd (upd (upd (fun _ => 0) 0 (nI (y % 3))) 1 dd) 2 (nI (z / 64 % 3))))) :: hdW G h r n mc S) hC dX11_acts_226 0 rfl (by decide) (by decide) rfl ?_
        refine J_dup hC dX11_acts_227 rfl ?_
        refine J_iconst (v := 3) hC dX11_acts_228 rfl ?_
        refine J_iconst (v := 0) hC dX11_acts_229 rfl ?_
        refine J_iast (i := 3) (ws' := (w9, .inl (gc G 0, 5, .inl (upd (upd (upd (upd (fun _ => 0) 0 (nI (y % 3))) 1 dd) 2 (nI (z / 64 % 3))) 3 0))) :: hdW G h r n mc S) hC dX11_acts_230 0 rfl (by decide) (by decide) rfl ?_
        refine J_dup hC dX11_acts_231 rfl ?_
        refine J_iconst (v := 4) hC dX11_acts_232 rfl ?_
        refine J_iconst (v := 0) hC dX11_acts_233 rfl ?_
        refine J_iast (i := 4) (ws' := (w9, .inl (gc G 0, 5, .inl (upd (upd (upd (upd (upd (fun _ => 0) 0 (nI (y % 3))) 1 dd) 2 (nI (z / 64 % 3))) 3 0) 4 0))) :: hdW G h r n mc S) hC dX11_acts_234 0 rfl (by decide) (by decide) rfl ?_
        obtain ⟨fw, hfw⟩ : ∃ z9, z9 = upd (upd (upd (upd (upd (fun _ => 0) 0 (nI (y % 3))) 1 dd) 2 (nI (z / 64 % 3))) 3 0) 4 0 := ⟨_, rfl⟩
        rw [← hfw]
        obtain ⟨D, hD⟩ : ∃ z9, z9 = s_bookAdd S (nI (y % 3)) dd (nI (z / 64 % 3)) n := ⟨_, rfl⟩
        refine J_callSa hC dX11_acts_235 wl_X11_108 wi_X11 yi_X11_with ((fr_a (W1 := fun b => (h 0, .inr (11, hdO h S)) :: (hdW G (hup h 9 b) (rad r n w9) (n + 1) mc D).tail ++ [(h 9, .inl (gc G 4, n, .inr (.inr (.inr (.inr (fun k => some (r k)))))))]) (wr := (hdF G h r n mc S).take 9 ++ [((h 10, .inl (gc G 0, mc, .inl (S 15))) : Nat × va_E)]) (c_X11_with _ G (h 9) w9 n fw r S (by omega)) (pm_wi2 ((hdF G h r n mc S).take 9) (rwW G r n S) (h 9, .inl (gc G 4, n, .inr (.inr (.inr (.inr (fun k => some (r k))))))) (h 10, .inl (gc G 0, mc, .inl (S 15))) (w9, .inl (gc G 0, 5, .inl fw))) (fun b => by rw [hD]; refine List.Perm.trans (pm_wo2 ((hdF G h r n mc S).take 9) (rwW G r n S) _ _ _ _) (List.Perm.of_eq ?_); rw [← rw_add G r n w9 S (nI (y % 3)) dd (nI (z / 64 % 3)) hfw]; rfl))) rfl rfl ⟨Nat.le_of_ble_eq_true rfl, Nat.le_of_ble_eq_true rfl⟩ (Nat.le_of_ble_eq_true rfl) (Nat.le_of_ble_eq_true rfl) (Nat.le_of_ble_eq_true rfl) (fun b hb9 => ?_)
        refine J_put (ws' := hdW G (hup h 9 b) (rad r n w9) (n + 1) mc D ++ [(h 9, .inl (gc G 4, n, .inr (.inr (.inr (.inr (fun k => some (r k)))))))]) hC wu_X11 rfl tyX11_ok nmX11 dX11_acts_238 0 8 (by decide) wf_X11_35 rfl rfl (Nat.le_of_ble_eq_true rfl) rfl rfl (by rw [hD]; rfl) ?_
        refine J_sub (ws' := hdW G (hup h 9 b) (rad r n w9) (n + 1) mc D) [(h 9, .inl (gc G 4, n, .inr (.inr (.inr (.inr (fun k => some (r k)))))))] (List.Perm.refl _) ?_
        refine J_aload_n hC dX11_acts_241 4 rfl rfl ?_
        refine J_get (v := .ref (hup h 9 b 9)) hC wu_X11 rfl dX11_acts_242 0 8 (by decide) wf_X11_35 rfl rfl ?_
        refine J_alen hC dX11_acts_245 9 rfl (t := 4) rfl ?_
        refine J_iconst (v := 1) hC dX11_acts_246 rfl ?_
        refine J_isub (v := nI n) hC dX11_acts_247 (pk_sub (a := n + 1) (b := 1) (by omega)) ?_
        refine J_iconst (v := 4) hC dX11_acts_248 rfl ?_
        refine J_idiv (v := nI (n / 4)) hC dX11_acts_249 (by decide) (nDv (by omega) (by decide) (by decide)) ?_
        exact J_iret hC hR dX11_acts_250 rfl (hup h 9 b, rad r n w9, D) (by rw [hA]; exact ⟨rfl, rfl, hD⟩) (by show _ = hdW G (hup h 9 b) (rad r n w9) (bcO D) (mcO D) D; rw [show bcO D = n + 1 from by rw [hD]; exact nI_clamp (by omega), show mcO D = mc from by rw [hD]; exact hS.mc]) (by decide) (by decide)
      · rw [s_refusal, if_pos c12, if_pos c4, if_neg (by omega)]; decide
    · refine J_tabIn (tgt := 251) hC dX11_acts_51 (tb_lo (by omega)) (tb_hi (by omega)) (by rw [tb_i (by omega)]; exact (by decide : ∀ i : Fin 15, 12 ≤ i.1 → (#[89, 89, 89, 89, 89, 89, 89, 89, 89, 89, 89, 89, 200, 200, 200, 209, 234, 261, 261] : Array Int)[i.1]? = some 200) ⟨q, c.2⟩ c.1) (by decide) ?_
      have hn0 : 0 < n := Nat.pos_of_ne_zero (fun h9 => hg ⟨c.1, c.2, h9⟩)
      have hA : hActs n S y z q = hRet n S (y % ((n + 3) / 4)) := by rw [hActs, if_neg hg, if_neg (by omega), if_pos c.2]
      have hpg : y % ((n + 3) / 4) < ((n + 3) / 4) := Nat.mod_lt _ (by omega)
      refine J_aload_n hC dX11_acts_251 3 rfl rfl ?_
      refine J_iload_n hC dX11_acts_252 2 rfl rfl ?_
      refine J_iload hC dX11_acts_253 0 rfl ?_
      refine J_irem (v := nI (y % ((n + 3) / 4))) hC dX11_acts_255 (nI_ne0 (by omega) (by omega)) (nMd (by omega) (by omega) (by omega)) ?_
      obtain ⟨pg, hpe⟩ : ∃ z9, z9 = y % ((n + 3) / 4) := ⟨_, rfl⟩
      rw [← hpe] at hpg hA ⊢
      refine J_callVi hC dX11_acts_256 wl_X11_112 yi_X11_retracts (c_X11_retracts _ G h r n mc pg S hS (by omega)) rfl rfl 0 11 rfl rfl ⟨Nat.le_of_ble_eq_true rfl, Nat.le_of_ble_eq_true rfl⟩ (Nat.le_of_ble_eq_true rfl) (Nat.le_of_ble_eq_true rfl) (Nat.le_of_ble_eq_true rfl) (fun q9 u hu => ?_)
      refine J_iret hC hR dX11_acts_259 rfl u ⟨hu.1, ?_⟩ rfl (by decide) (by decide)
      rw [hA]
      rcases hu.2 with ⟨a1, a2, a3⟩ | ⟨a1, a2, a3⟩
      · rw [hRet, if_pos (Decidable.of_not_not a2)]; exact ⟨a1, a3⟩
      · rw [hRet, if_neg a2]; exact ⟨a1, a3⟩
    · refine J_tabIn (tgt := 260) hC dX11_acts_51 (tb_lo (by omega)) (tb_hi (by omega)) (by rw [c]; exact (by decide : (#[89, 89, 89, 89, 89, 89, 89, 89, 89, 89, 89, 89, 200, 200, 200, 209, 234, 261, 261] : Array Int)[((nI 15).toInt - 0).toNat]? = some 209)) (by decide) ?_
      have hA : hActs n S y z q = hSet 2 (y % 3) (nI (z % 101)) S := by rw [hActs, if_neg hg, if_neg (by omega), if_neg (by omega), if_pos c]
      rw [hSet] at hA
      obtain ⟨v3, hv3⟩ : ∃ z9, z9 = y % 3 := ⟨_, rfl⟩
      have hv : v3 < 3 := by omega
      rw [← hv3] at hA
      refine J_aload_n hC dX11_acts_260 3 rfl rfl ?_
      refine J_get (v := .ref (h 2)) hC wu_X11 rfl dX11_acts_261 0 1 (by decide) wf_X11_13 rfl rfl ?_
      refine J_iload_n hC dX11_acts_264 2 rfl rfl ?_
      refine J_iconst (v := 3) hC dX11_acts_265 rfl ?_
      refine J_irem (v := nI v3) hC dX11_acts_266 (by decide) (by rw [hv3]; exact nMd (by omega) (by decide) (by decide)) ?_
      refine J_iald (i := v3) (v := S 2 v3) hC dX11_acts_267 2 rfl hv (by decide) rfl ?_
      refine J_istore hC [(5, .int (S 2 v3)), (4, .int (nI ((n + 3) / 4))), (3, .int (nI z)), (2, .int (nI y)), (0, .ref (h 0)), (1, .int (nI xx))] dX11_acts_268 (by decide) rfl ?_
      refine J_aload_n hC dX11_acts_270 4 rfl rfl ?_
      refine J_get (v := .ref (h 2)) hC wu_X11 rfl dX11_acts_271 0 1 (by decide) wf_X11_13 rfl rfl ?_
      refine J_iload_n hC dX11_acts_274 3 rfl rfl ?_
      refine J_iconst (v := 3) hC dX11_acts_275 rfl ?_
      refine J_irem (v := nI v3) hC dX11_acts_276 (by decide) (by rw [hv3]; exact nMd (by omega) (by decide) (by decide)) ?_
      refine J_iload_n hC dX11_acts_277 2 rfl rfl ?_
      refine J_bipush (v := 101) hC dX11_acts_278 rfl ?_
      refine J_irem (v := nI (z % 101)) hC dX11_acts_280 (by decide) (nMd (by omega) (by decide) (by decide)) ?_
      refine J_iast (i := v3) (ws' := hdW G h r n mc (us S 2 v3 (nI (z % 101)))) hC dX11_acts_281 2 rfl hv (by decide) rfl ?_
      refine J_iload hC dX11_acts_282 0 rfl ?_
      exact J_iret hC hR dX11_acts_284 rfl (h, r, us S 2 v3 (nI (z % 101))) (by rw [hA]; exact ⟨rfl, rfl, rfl⟩) (by show hdW G h r n mc (us S 2 v3 (nI (z % 101))) = hdW G h r (bcO S) (mcO S) (us S 2 v3 (nI (z % 101))); rw [hS.bc, hS.mc]) (by decide) (by decide)
    · refine J_tabIn (tgt := 285) hC dX11_acts_51 (tb_lo (by omega)) (tb_hi (by omega)) (by rw [c]; exact (by decide : (#[89, 89, 89, 89, 89, 89, 89, 89, 89, 89, 89, 89, 200, 200, 200, 209, 234, 261, 261] : Array Int)[((nI 16).toInt - 0).toNat]? = some 234)) (by decide) ?_
      have hA : hActs n S y z q = hSet 1 (y % 3) (nI (1 + z % 99)) S := by rw [hActs, if_neg hg, if_neg (by omega), if_neg (by omega), if_neg (by omega), if_pos c]
      rw [hSet] at hA
      obtain ⟨v3, hv3⟩ : ∃ z9, z9 = y % 3 := ⟨_, rfl⟩
      have hv : v3 < 3 := by omega
      rw [← hv3] at hA
      refine J_aload_n hC dX11_acts_285 3 rfl rfl ?_
      refine J_get (v := .ref (h 1)) hC wu_X11 rfl dX11_acts_286 0 0 (by decide) wf_X11_7 rfl rfl ?_
      refine J_iload_n hC dX11_acts_289 2 rfl rfl ?_
      refine J_iconst (v := 3) hC dX11_acts_290 rfl ?_
      refine J_irem (v := nI v3) hC dX11_acts_291 (by decide) (by rw [hv3]; exact nMd (by omega) (by decide) (by decide)) ?_
      refine J_iald (i := v3) (v := S 1 v3) hC dX11_acts_292 1 rfl hv (by decide) rfl ?_
      refine J_istore hC [(5, .int (S 1 v3)), (4, .int (nI ((n + 3) / 4))), (3, .int (nI z)), (2, .int (nI y)), (0, .ref (h 0)), (1, .int (nI xx))] dX11_acts_293 (by decide) rfl ?_
      refine J_aload_n hC dX11_acts_295 4 rfl rfl ?_
      refine J_get (v := .ref (h 1)) hC wu_X11 rfl dX11_acts_296 0 0 (by decide) wf_X11_7 rfl rfl ?_
      refine J_iload_n hC dX11_acts_299 3 rfl rfl ?_
      refine J_iconst (v := 3) hC dX11_acts_300 rfl ?_
      refine J_irem (v := nI v3) hC dX11_acts_301 (by decide) (by rw [hv3]; exact nMd (by omega) (by decide) (by decide)) ?_
      refine J_iconst (v := 1) hC dX11_acts_302 rfl ?_
      refine J_iload_n hC dX11_acts_303 2 rfl rfl ?_
      refine J_bipush (v := 99) hC dX11_acts_304 rfl ?_
      refine J_irem (v := nI (z % 99)) hC dX11_acts_306 (by decide) (nMd (by omega) (by decide) (by decide)) ?_
      refine J_iadd (v := nI (1 + z % 99)) hC dX11_acts_307 (nI_add 1 (z % 99)) ?_
      refine J_iast (i := v3) (ws' := hdW G h r n mc (us S 1 v3 (nI (1 + z % 99)))) hC dX11_acts_308 1 rfl hv (by decide) rfl ?_
      refine J_iload hC dX11_acts_309 0 rfl ?_
      exact J_iret hC hR dX11_acts_311 rfl (h, r, us S 1 v3 (nI (1 + z % 99))) (by rw [hA]; exact ⟨rfl, rfl, rfl⟩) (by show hdW G h r n mc (us S 1 v3 (nI (1 + z % 99))) = hdW G h r (bcO S) (mcO S) (us S 1 v3 (nI (1 + z % 99))); rw [hS.bc, hS.mc]) (by decide) (by decide)
    · refine J_tabIn (tgt := 312) hC dX11_acts_51 (tb_lo (by omega)) (tb_hi (by omega)) (by rw [tb_i (by omega)]; exact (by decide : ∀ i : Fin 19, 17 ≤ i.1 → (#[89, 89, 89, 89, 89, 89, 89, 89, 89, 89, 89, 89, 200, 200, 200, 209, 234, 261, 261] : Array Int)[i.1]? = some 261) ⟨q, c.2⟩ c.1) (by decide) ?_
      have hA : hActs n S y z q = hOdds (y % 3) (nI (z % 21)) S := by rw [hActs, if_neg hg, if_neg (by omega), if_neg (by omega), if_neg (by omega), if_neg (by omega), if_pos c.2]
      obtain ⟨v3, hv3⟩ : ∃ z9, z9 = y % 3 := ⟨_, rfl⟩
      have hv : v3 < 3 := by omega
      rw [← hv3] at hA
      refine J_aload_n hC dX11_acts_312 3 rfl rfl ?_
      refine J_get (v := .ref (h 3)) hC wu_X11 rfl dX11_acts_313 0 2 (by decide) wf_X11_16 rfl rfl ?_
      refine J_iload_n hC dX11_acts_316 2 rfl rfl ?_
      refine J_iconst (v := 3) hC dX11_acts_317 rfl ?_
      refine J_irem (v := nI v3) hC dX11_acts_318 (by decide) (by rw [hv3]; exact nMd (by omega) (by decide) (by decide)) ?_
      refine J_iald (i := v3) (v := S 8 v3) hC dX11_acts_319 3 rfl hv (by decide) rfl ?_
      refine J_istore hC [(5, .int (S 8 v3)), (4, .int (nI ((n + 3) / 4))), (3, .int (nI z)), (2, .int (nI y)), (0, .ref (h 0)), (1, .int (nI xx))] dX11_acts_320 (by decide) rfl ?_
      refine J_aload_n hC dX11_acts_322 4 rfl rfl ?_
      refine J_get (v := .ref (h 3)) hC wu_X11 rfl dX11_acts_323 0 2 (by decide) wf_X11_16 rfl rfl ?_
      refine J_iconst (v := 0) hC dX11_acts_326 rfl ?_
      refine J_iald (i := 0) (v := S 8 0) hC dX11_acts_327 3 rfl (by decide) (by decide) rfl ?_
      refine J_aload_n hC dX11_acts_328 4 rfl rfl ?_
      refine J_get (v := .ref (h 3)) hC wu_X11 rfl dX11_acts_329 0 2 (by decide) wf_X11_16 rfl rfl ?_
      refine J_iconst (v := 1) hC dX11_acts_332 rfl ?_
      refine J_iald (i := 1) (v := S 8 1) hC dX11_acts_333 3 rfl (by decide) (by decide) rfl ?_
      refine J_iadd (v := S 8 0 + S 8 1) hC dX11_acts_334 rfl ?_
      refine J_aload_n hC dX11_acts_335 4 rfl rfl ?_
      refine J_get (v := .ref (h 3)) hC wu_X11 rfl dX11_acts_336 0 2 (by decide) wf_X11_16 rfl rfl ?_
      refine J_iconst (v := 2) hC dX11_acts_339 rfl ?_
      refine J_iald (i := 2) (v := S 8 2) hC dX11_acts_340 3 rfl (by decide) (by decide) rfl ?_
      refine J_iadd (v := S 8 0 + S 8 1 + S 8 2) hC dX11_acts_341 rfl ?_
      refine J_iload hC dX11_acts_342 0 rfl ?_
      refine J_isub (v := S 8 0 + S 8 1 + S 8 2 - S 8 v3) hC dX11_acts_344 rfl ?_
      refine J_iload_n hC dX11_acts_345 2 rfl rfl ?_
      refine J_bipush (v := 21) hC dX11_acts_346 rfl ?_
      refine J_irem (v := nI (z % 21)) hC dX11_acts_348 (by decide) (nMd (by omega) (by decide) (by decide)) ?_
      refine J_iadd (v := S 8 0 + S 8 1 + S 8 2 - S 8 v3 + nI (z % 21)) hC dX11_acts_349 rfl ?_
      refine J_if_ne (tgt := 356) hC dX11_acts_350 (by decide) (fun c1 => ?_) (fun c1 => ?_)
      · refine J_aload_n hC dX11_acts_356 4 rfl rfl ?_
        refine J_get (v := .ref (h 3)) hC wu_X11 rfl dX11_acts_357 0 2 (by decide) wf_X11_16 rfl rfl ?_
        refine J_iload_n hC dX11_acts_360 3 rfl rfl ?_
        refine J_iconst (v := 3) hC dX11_acts_361 rfl ?_
        refine J_irem (v := nI v3) hC dX11_acts_362 (by decide) (by rw [hv3]; exact nMd (by omega) (by decide) (by decide)) ?_
        refine J_iload_n hC dX11_acts_363 2 rfl rfl ?_
        refine J_bipush (v := 21) hC dX11_acts_364 rfl ?_
        refine J_irem (v := nI (z % 21)) hC dX11_acts_366 (by decide) (nMd (by omega) (by decide) (by decide)) ?_
        refine J_iast (i := v3) (ws' := hdW G h r n mc (us S 8 v3 (nI (z % 21)))) hC dX11_acts_367 3 rfl hv (by decide) rfl ?_
        refine J_iload hC dX11_acts_368 0 rfl ?_
        rw [hOdds, if_neg c1] at hA
        exact J_iret hC hR dX11_acts_370 rfl (h, r, us S 8 v3 (nI (z % 21))) (by rw [hA]; exact ⟨rfl, rfl, rfl⟩) (by show hdW G h r n mc (us S 8 v3 (nI (z % 21))) = hdW G h r (bcO S) (mcO S) (us S 8 v3 (nI (z % 21))); rw [hS.bc, hS.mc]) (by decide) (by decide)
      · refine J_bipush (v := -9) hC dX11_acts_353 (by decide +kernel) ?_
        rw [hOdds, if_pos c1] at hA
        exact J_iret hC hR dX11_acts_355 rfl (h, r, S) (by rw [hA]; exact ⟨rfl, rfl, rfl⟩) (by show hdW G h r n mc S = hdW G h r (bcO S) (mcO S) S; rw [hS.bc, hS.mc]) (by decide) (by decide)
    · refine J_tabOut (tgt := 371) hC dX11_acts_51 (Or.inr (by rw [nI_toInt (by omega)]; omega)) (by decide) ?_
      have hA : hActs n S y z q = hPass (z % hM q + 1) S := by rw [hActs, if_neg hg, if_neg (by omega), if_neg (by omega), if_neg (by omega), if_neg (by omega), if_neg (by omega)]
      rw [hPass] at hA
      obtain ⟨dy, hdy, hd0⟩ := hday
      refine J_aload_n hC dX11_acts_371 3 rfl rfl ?_
      refine J_get (v := .int (S 16 3)) hC wu_X11 rfl dX11_acts_372 0 14 (by decide) wf_X11_67 rfl rfl ?_
      refine J_istore hC [(5, .int (S 16 3)), (4, .int (nI ((n + 3) / 4))), (3, .int (nI z)), (2, .int (nI y)), (0, .ref (h 0)), (1, .int (nI xx))] dX11_acts_375 (by decide) rfl ?_
      refine J_iconst (v := 0) hC dX11_acts_377 rfl ?_
      refine J_istore hC [(6, .int 0), (5, .int (S 16 3)), (4, .int (nI ((n + 3) / 4))), (3, .int (nI z)), (2, .int (nI y)), (0, .ref (h 0)), (1, .int (nI xx))] dX11_acts_378 (by decide) rfl ?_
      have hM3 : 0 < hM q ∧ hM q ≤ 25 := by rw [hM]; split <;> omega
      have hzm : z % hM q < hM q := Nat.mod_lt _ hM3.1
      have key : ∀ (f k : Nat) (hh rr : Nat → Nat) (T : CT), z % hM q + 1 - k < f → k ≤ z % hM q + 1 → T = s_days k S → HV (bcO T) (mcO T) T → T 16 0 = nI (dy + k) → hh 0 = h 0 → J x G (hdW G hh rr (bcO T) (mcO T) T) (6 * k) (120 * k) [(6, .int (nI k)), (5, .int (S 16 3)), (4, .int (nI ((n + 3) / 4))), (3, .int (nI z)), (2, .int (nI y)), (0, .ref (hh 0)), (1, .int (nI xx))] [] 380 := by
        intro f
        induction f with
        | zero => exact fun _ _ _ _ h => absurd h (Nat.not_lt_zero _)
        | succ f ih =>
          intro k hh rr T hf hk hT hv hd9 e0
          refine J_iload hC dX11_acts_380 0 rfl ?_
          refine J_iload_n hC dX11_acts_382 3 rfl rfl ?_
          have p398 : J x G (hdW G hh rr (bcO T) (mcO T) T) (6 * k) (120 * k) [(6, .int (nI k)), (5, .int (S 16 3)), (4, .int (nI ((n + 3) / 4))), (3, .int (nI z)), (2, .int (nI y)), (0, .ref (hh 0)), (1, .int (nI xx))] [.int (nI (hM q)), .int (nI z), .int (nI k)] 398 := by
            refine J_irem (v := nI (z % hM q)) hC dX11_acts_398 (nI_ne0 (by omega) (by omega)) (nMd (by omega) (by omega) (by omega)) ?_
            refine J_ic_gtN (a := k) (b := z % hM q) (tgt := 412) hC dX11_acts_399 (by decide) (by omega) (by omega) (fun c1 => ?_) (fun c1 => ?_)
            · refine J_aload_n hC dX11_acts_412 5 rfl rfl ?_
              refine J_get (v := .int (T 16 3)) hC wu_X11 rfl dX11_acts_413 0 14 (by decide) wf_X11_67 rfl rfl ?_
              refine J_iload hC dX11_acts_416 1 rfl ?_
              refine J_isub (v := T 16 3 - S 16 3) hC dX11_acts_418 rfl ?_
              have hkk : k = z % hM q + 1 := by omega
              refine J_iret hC hR dX11_acts_419 rfl (hh, rr, T) ⟨e0, ?_⟩ rfl (by show 6 * k ≤ 150; omega) (by show 120 * k ≤ 3000; omega)
              rw [hA, ← hkk, ← hT]
              exact ⟨rfl, rfl⟩
            · have hN := day_hv hv hd9 (by omega)
              refine J_aload_n hC dX11_acts_402 5 rfl rfl ?_
              refine J_callVv hC dX11_acts_403 wl_X11_116 yi_X11_passes (c_X11_passes _ G hh rr (bcO T) (mcO T) T (hv.d1 hd9 (by omega))) rfl rfl 0 11 rfl rfl ⟨Nat.le_of_ble_eq_true rfl, Nat.le_of_ble_eq_true rfl⟩ (Nat.le_of_ble_eq_true rfl) (show 6 * k + 6 ≤ 150 by omega) (show 120 * k + 120 ≤ 3000 by omega) (fun u hu => ?_)
              obtain ⟨h1, r1⟩ := u
              dsimp only at hu ⊢
              rw [← hu]
              refine J_iinc hC [(6, .int (nI (k + 1))), (5, .int (S 16 3)), (4, .int (nI ((n + 3) / 4))), (3, .int (nI z)), (2, .int (nI y)), (0, .ref (h1 0)), (1, .int (nI xx))] dX11_acts_406 0 rfl (nI_inc _) (by decide) rfl ?_
              refine J_goto (tgt := 380) hC dX11_acts_409 (by decide) ?_
              exact ih (k + 1) h1 r1 (s_day T) (by omega) (by omega) (by rw [days_suc, hT]) hN.1 hN.2 (hu.trans e0)
          refine J_iload_n hC dX11_acts_383 6 rfl rfl ?_
          refine J_bipush (v := 32) hC dX11_acts_384 rfl ?_
          refine J_irem (v := nI q) hC dX11_acts_386 (by decide) (by rw [hq]; exact nMd hx (by decide) (by decide)) ?_
          refine J_bipush (v := 29) hC dX11_acts_387 rfl ?_
          refine J_ic_geN (a := q) (b := 29) (tgt := 396) hC dX11_acts_389 (by decide) (by omega) (by decide) (fun c2 => ?_) (fun c2 => ?_)
          · have hm9 : hM q = 25 := if_neg (by omega)
            rw [hm9] at p398
            refine J_bipush (v := 25) hC dX11_acts_396 rfl ?_
            exact p398
          · have hm9 : hM q = 3 := if_pos c2
            rw [hm9] at p398
            refine J_iconst (v := 3) hC dX11_acts_392 rfl ?_
            refine J_goto (tgt := 398) hC dX11_acts_393 (by decide) ?_
            exact p398
      exact key _ 0 h r S (Nat.lt_succ_self _) (Nat.zero_le _) rfl (by rw [hS.bc, hS.mc]; exact hS) hdy rfl |> fun t => by rw [hS.bc, hS.mc] at t; exact t
  refine J_iload_n hC dX11_acts_21 4 rfl rfl ?_
  refine J_bipush (v := 32) hC dX11_acts_22 rfl ?_
  refine J_irem (v := nI q) hC dX11_acts_24 (by decide) (by rw [hq]; exact nMd hx (by decide) (by decide)) ?_
  have hq32 : q < 32 := by omega
  refine J_bipush (v := 12) hC dX11_acts_25 rfl ?_
  have hq32 : q < 32 := by omega
  refine J_ic_ltN (a := q) (b := 12) (tgt := 47) hC dX11_acts_27 (by decide) (by omega) (by decide) (fun c1 => p47 (by omega)) (fun c1 => ?_)
  refine J_iload_n hC dX11_acts_30 4 rfl rfl ?_
  refine J_bipush (v := 32) hC dX11_acts_31 rfl ?_
  refine J_irem (v := nI q) hC dX11_acts_33 (by decide) (by rw [hq]; exact nMd hx (by decide) (by decide)) ?_
  refine J_bipush (v := 15) hC dX11_acts_34 rfl ?_
  refine J_ic_geN (a := q) (b := 15) (tgt := 47) hC dX11_acts_36 (by decide) (by omega) (by decide) (fun c2 => p47 (by omega)) (fun c2 => ?_)
  refine J_iload hC dX11_acts_39 0 rfl ?_
  refine J_if_neN (a := ((n + 3) / 4)) (tgt := 47) hC dX11_acts_41 (by decide) (by omega) (fun c3 => p47 (by omega)) (fun c3 => ?_)
  refine J_bipush (v := -8) hC dX11_acts_44 (by decide +kernel) ?_
  have hA : hActs n S y z q = (-8, S) := if_pos ⟨c1, c2, by omega⟩
  exact J_iret hC hR dX11_acts_46 rfl (h, r, S) (by rw [hA]; exact ⟨rfl, rfl, rfl⟩) (by show hdW G h r n mc S = hdW G h r (bcO S) (mcO S) S; rw [hS.bc, hS.mc]) (by decide) (by decide)


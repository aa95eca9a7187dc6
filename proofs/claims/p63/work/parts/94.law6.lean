/-! THE LAW -/
abbrev RM1 : Room := { frames := 2048, cells := 600086, slots := 7301442, locals := 84000 }
/-- a static call of a method that might throw, but doesn't here -/
theorem J_callT0Sv {S SY : Type} {x : JX} {G : gT} {R : Room} {cc : ByteArray} {w0 : Cond} {own : String} {nL : Nat} {ws : va_W} {k n : Nat} {lv : List (Nat × Value)} {st rest : List Value} {pc : Nat} {C : String} {idx maxLY na : Nat} {y : MethodName} {ccY : ByteArray} {rmY : Room} {As : List Value}
    {py : SY → Prop} {EY : SY → String} {WY : SY → va_W} {post : S → Prop} {W1 : S → va_W} (hC : JC x G R cc w0 own nL) (hxT : xT (js x)) (hd : decode cc pc = .ok (.invokestatic idx, 3)) (hl : Cond.methodLink own idx y ∈ GW) (hio : Cond.initialized own ∈ GW) (hY : YS y C ccY maxLY none na)
    (hM : TV (jl x) y ccY maxLY rmY As G ws post W1 py EY WY) (hpy : ∀ u, ¬ py u)
    (hst : st = As.reverse ++ rest) (hna : As.length = na)
    (hR : rmY.frames + 1 ≤ R.frames ∧ 8 + (maxLY + 11) + rmY.locals ≤ R.locals) (hcat : (rest.map fun v => v.category).sum ≤ 8) (hk : k + rmY.cells ≤ R.cells) (hn : n + rmY.slots ≤ R.slots)
    (kk : ∀ (u : S), post u → J x G (W1 u) (k + rmY.cells) (n + rmY.slots) lv rest (pc + 3)) : J x G ws k n lv st pc := by
  intro H locs ls hP hD hS hL
  have hK := hC.2.2.2.2.2.1
  have hRR : jR x = R := hC.2.2.2.2.2.2.2.1
  have hE := hC.2.2.2.2.2.2.2.2.2
  have h9 := hC.2.2.2.2.2.2.2.2.1
  have hF := va_A_in hD hS hC.2.2.2.2.2.2.1
  have ht0 := hC.2.2.2.2.1
  refine vx_callv (vx_runS (As := As) (rest := rest) ⟨hC.1, hC.2.1, hC.2.2.1, hC.2.2.2.1, hC.2.2.2.2.1⟩ (hM H.size) ⟨callB_of na ht0 (fun w hw => (gwS (w0 := w0) hl hY.1 hio hY.2.2.1) w (by unfold wsS; exact List.mem_append_right _ hw)) rfl rfl rfl (ht0 _ (List.mem_cons_of_mem _ (by rw [hY.2.2.2.1]; exact hY.2.1))) (ht0 _ (List.mem_cons_of_mem _ hl)) hY.2.2.2.2 (by rw [hRR]; exact hR), ht0 _ (List.mem_cons_of_mem _ hY.1)⟩ ⟨gX_blind _ _ _ _, fun U hU hW => ⟨rfl, ⟨by rw [hU], by rw [hU]; exact hP, va_K.moved hW.alike hK, hD.weaken (fun _ _ _ _ => trivial), hE.step hW (by rw [hU]; intro q hq hn; rw [h9] at hS; exact hS.2.1 q hq hn) hF⟩, hxT.warm hW⟩⟩ rfl hna (hL.1.trans hC.2.2.1) hst (lv_room hcat) hd (by rw [hRR]; exact ⟨hk, hn⟩)) hS (fun q _ h => hF q h) hF (fun q _ h => hF q h)
    (fun E ce q9 u t H1 locs1 ht hvm hp hB hz hk1 hS1 hce hcv hcl => absurd hp (hpy u)) (fun u t H1 locs1 ht hvm hw hB hz hk1 hS1 => ?_)
  obtain ⟨hP1, hK1, hD1⟩ := hB
  rw [ht] at hP1
  exact kk u hw H1 locs1 ls hP1 (hD1.weaken (fun _ _ _ h => hF _ h)) hS1 hL
theorem yw_acts : YW yL_acts cL_acts 5 [(38, 156, 230, 112), (157, 167, 230, 112), (168, 179, 230, 112), (180, 193, 230, 112), (194, 205, 230, 112), (206, 229, 230, 112)] 2 := ⟨wst_L_acts, wi_L, wc_L_acts, by decide +kernel⟩
theorem yw_loaded : YW yL_loaded cL_loaded 2 [(0, 4, 5, 31)] 1 := ⟨wst_L_loaded, wi_L, wc_L_loaded, by decide +kernel⟩
/-- the copies and the coins add up; a day has one forecast in a village -/
def CO (S : CT) : Prop := S 16 5 - s_copies S (bcO S) - S 16 6 = 0 ∧ S 16 7 - S 16 8 - S 16 1 = 0 ∧ DB (bcO S) S
/-- what holds of the contents after c acts -/
def LQ (c : Nat) (S : CT) : Prop := HV (bcO S) (mcO S) S ∧ (∃ dy, S 16 0 = nI dy ∧ dy ≤ 25 * c) ∧ CO S
theorem HV.ci {n mc : Nat} {S : CT} (hS : HV n mc S) : CI S := by
  refine ⟨⟨?_, ?_⟩, ⟨?_, ?_⟩, ⟨?_, ?_⟩, ⟨?_, ?_⟩⟩
  · rw [hS.bc]; exact hS.1.1
  · rw [hS.bc]; exact hS.1.2
  · rw [hS.vc]; exact hS.2.2.1.1
  · rw [hS.vc]; decide
  · rw [hS.fc]; exact hS.2.2.1.2
  · rw [hS.fc]; decide
  · rw [hS.mc]; exact hS.2.1.1
  · rw [hS.mc]; exact hS.2.1.2
theorem err0 {n : Nat} {S : CT} (h : DB n S) : s_errors S n = 0 := by
  have g : ∀ m i, i + m = n → ∀ s : Int32, fo (fun i s => if ¬ s_placeOf S (S 10 i) (S 11 i) n = nI i then s + 1 else s) i m s = s := by
    intro m
    induction m with
    | zero => exact fun _ _ _ => rfl
    | succ m ih =>
      intro i hi s
      show fo _ (i + 1) m (if ¬ s_placeOf S (S 10 i) (S 11 i) n = nI i then s + 1 else s) = s
      rw [if_neg (not_not_intro (h i (by omega)))]
      exact ih (i + 1) (by omega) s
  exact g n 0 (by omega) 0
/-! the text's letters -/
theorem l128_app {A B : List Nat} (h : ∀ c ∈ A, c < 128) (h2 : ∀ c ∈ B, c < 128) : ∀ c ∈ A ++ B, c < 128 := fun c hc => (List.mem_append.mp hc).elim (h c) (h2 c)
theorem l128_1 {c : Nat} (h : c < 128) : ∀ x ∈ [c], x < 128 := fun x hx => by rw [List.mem_singleton.mp hx]; exact h
theorem l128_num (v : Nat) : ∀ c ∈ numL v, c < 128 := fun c hc => by
  obtain ⟨i, -, rfl⟩ := List.mem_map.mp hc
  omega
theorem l128_k (i : Nat) : ∀ c ∈ kL i, c < 128 := by
  unfold kL
  split
  · decide
  · split <;> decide
theorem l128_head (G : gT) : ∀ c ∈ headL G, c < 128 := l128_app (l128_app (l128_app (l128_app (l128_app (l128_app (l128_app (l128_app (l128_k 10) (l128_num _)) (l128_1 (by decide))) (l128_num _)) (l128_1 (by decide))) (l128_num _)) (l128_1 (by decide))) (l128_num _)) (l128_1 (by decide))
theorem l128_vil (G : gT) {k : Nat} (hk : k < 3) {t : List Nat} (h : ∀ c ∈ t, c < 128) : ∀ c ∈ vilL G k t, c < 128 := l128_app (l128_app (l128_app (l128_app (l128_app (l128_app (l128_app h (l128_k 11)) (l128_1 (by omega))) (l128_1 (by decide))) (l128_num _)) (l128_1 (by decide))) (l128_num _)) (l128_1 (by decide))
theorem l128_fair (G : gT) {k : Nat} (hk : k < 2) {t : List Nat} (h : ∀ c ∈ t, c < 128) : ∀ c ∈ fairL G k t, c < 128 := l128_app (l128_app (l128_app (l128_app (l128_app (l128_app (l128_app (l128_app (l128_app (l128_app (l128_app h (l128_k 12)) (l128_1 (by omega))) (l128_1 (by decide))) (l128_1 (by have := placeN_le G k; omega))) (l128_1 (by decide))) (l128_num _)) (l128_1 (by decide))) (l128_num _)) (l128_1 (by decide))) (l128_num _)) (l128_1 (by decide))
theorem text_lt (G : gT) : ∀ j, j < (textL G).length → (textL G).getD j 0 < 128 := fun j hj => by
  have h := l128_fair G (k := 1) (by decide) (l128_fair G (k := 0) (by decide) (l128_vil G (k := 2) (by decide) (l128_vil G (k := 1) (by decide) (l128_vil G (k := 0) (by decide) (l128_head G)))))
  rw [List.getD_eq_getElem?_getD, List.getElem?_eq_getElem hj]
  exact h _ (List.getElem_mem hj)
/-! the books: copies, coins, one forecast a day in a village -/
theorem sub3 {a b c : Int32} : a - b - c = 0 ↔ a = b + c := by
  constructor
  · intro h
    have h1 : a - b = c := by
      have h2 := congrArg (· + c) h
      simp only [Int32.sub_add_cancel, Int32.zero_add] at h2
      exact h2
    have h3 := congrArg (· + b) h1
    simp only [Int32.sub_add_cancel] at h3
    rw [h3, Int32.add_comm]
  · intro h
    rw [h, Int32.add_comm b c, Int32.add_sub_cancel, Int32.sub_self]
theorem i_arc (a b c : Int32) : a + b + c = a + c + b := by rw [Int32.add_assoc, Int32.add_comm b, ← Int32.add_assoc]
def sm (f : Nat → Int32) (i m : Nat) (s : Int32) : Int32 := fo (fun j s => s + f j) i m s
theorem sm_init (f : Nat → Int32) (x : Int32) : ∀ m i s, sm f i m (s + x) = sm f i m s + x
  | 0, _, _ => rfl
  | m + 1, i, s => by
    show sm f (i + 1) m (s + x + f i) = sm f (i + 1) m (s + f i) + x
    rw [← sm_init f x m (i + 1) (s + f i), i_arc]
theorem sm_congr {f g : Nat → Int32} : ∀ m i s, (∀ j, i ≤ j → j < i + m → f j = g j) → sm f i m s = sm g i m s
  | 0, _, _, _ => rfl
  | m + 1, i, s, h => by
    show sm f (i + 1) m (s + f i) = sm g (i + 1) m (s + g i)
    rw [h i (Nat.le_refl _) (by omega)]
    exact sm_congr m (i + 1) _ (fun j h1 h2 => h j (by omega) (by omega))
theorem sm_split (f : Nat → Int32) (m2 : Nat) : ∀ m1 i s, sm f i (m1 + m2) s = sm f (i + m1) m2 (sm f i m1 s)
  | 0, i, s => by rw [Nat.zero_add]; rfl
  | m1 + 1, i, s => by
    rw [show m1 + 1 + m2 = (m1 + m2) + 1 by omega]
    show sm f (i + 1) (m1 + m2) (s + f i) = sm f (i + (m1 + 1)) m2 (sm f (i + 1) m1 (s + f i))
    rw [sm_split f m2 m1 (i + 1) (s + f i), show i + 1 + m1 = i + (m1 + 1) by omega]
theorem sm_shift (f : Nat → Int32) (d : Nat) : ∀ m i s, sm (fun j => f (j + d)) i m s = sm f (i + d) m s
  | 0, _, _ => rfl
  | m + 1, i, s => by
    show sm (fun j => f (j + d)) (i + 1) m (s + f (i + d)) = sm f (i + d + 1) m (s + f (i + d))
    rw [sm_shift f d m (i + 1) _, show i + 1 + d = i + d + 1 by omega]
theorem sm_upd (f : Nat → Int32) (x : Int32) {p n : Nat} (hp : p < n) : sm (upd f p (f p + x)) 0 n 0 = sm f 0 n 0 + x := by
  obtain ⟨m, rfl⟩ : ∃ m, n = p + (1 + m) := ⟨n - p - 1, by omega⟩
  rw [sm_split, sm_split, sm_split, sm_split]
  have e1 : sm (upd f p (f p + x)) 0 p 0 = sm f 0 p 0 := sm_congr p 0 0 (fun j h1 h2 => if_neg (by omega))
  have e2 : ∀ s, sm (upd f p (f p + x)) (0 + p) 1 s = sm f (0 + p) 1 s + x := fun s => by
    show s + upd f p (f p + x) (0 + p) = s + f (0 + p) + x
    rw [Nat.zero_add, show upd f p (f p + x) p = f p + x from if_pos rfl, Int32.add_assoc]
  have e3 : ∀ s, sm (upd f p (f p + x)) (0 + p + 1) m s = sm f (0 + p + 1) m s := fun s => sm_congr m _ s (fun j h1 h2 => if_neg (by omega))
  rw [e1, e2, e3, sm_init]
/-- what a removal takes from a sum -/
theorem sm_rem (f g : Nat → Int32) {p d n : Nat} (hp : p + d ≤ n) (h1 : ∀ j, j < n - d → g j = f (if j < p then j else j + d)) : sm f 0 n 0 = sm g 0 (n - d) 0 + sm f p d 0 := by
  obtain ⟨m, rfl⟩ : ∃ m, n = p + (d + m) := ⟨n - p - d, by omega⟩
  rw [sm_split, sm_split, show p + (d + m) - d = p + m by omega, sm_split, Nat.zero_add]
  have e1 : sm g 0 p 0 = sm f 0 p 0 := sm_congr p 0 0 (fun j a b => by rw [h1 j (by omega), if_pos (by omega)])
  have e2 : ∀ s, sm g p m s = sm f (p + d) m s := fun s => by
    rw [← sm_shift]
    exact sm_congr m p s (fun j a b => by rw [h1 j (by omega), if_neg (by omega)])
  have e3 : sm f p d (sm f 0 p 0) = sm f 0 p 0 + sm f p d 0 := by
    have h := sm_init f (sm f 0 p 0) d p 0
    rw [Int32.zero_add] at h
    rw [h, Int32.add_comm]
  rw [e1, e2, e3, sm_init]
theorem db_iff {n : Nat} {S : CT} (hn : n ≤ 30) : DB n S ↔ ∀ i j, i < j → j < n → ¬ (S 10 i = S 10 j ∧ S 11 i = S 11 j) := by
  constructor
  · intro h i j hij hj he
    have e1 := h i (by omega)
    have e2 := h j hj
    rw [he.1, he.2] at e1
    exact absurd (nI_ij (by omega) (by omega) (e1.symm.trans e2)) (by omega)
  · intro h k hk
    rcases fnd_cases (bkp S (S 10 k) (S 11 k)) n n 0 rfl with e | ⟨j, -, h2, h3, h4⟩
    · have g : ∀ m i, i ≤ k → i + m = n → fnd (bkp S (S 10 k) (S 11 k)) i m ≠ -1 := by
        intro m
        induction m with
        | zero => exact fun i h1 h2 => absurd h1 (by omega)
        | succ m ih =>
          intro i h1 h2
          by_cases hb : bkp S (S 10 k) (S 11 k) i = true
          · have e9 := fnd_hit (p := bkp S (S 10 k) (S 11 k)) (i := i) (n := n) (by omega) hb
            rw [show n - i = m + 1 by omega] at e9
            rw [e9]
            exact nI_ne_m1 (by omega)
          · by_cases hik : i = k
            · subst hik
              exact absurd (by simp [bkp]) hb
            · have e9 := fnd_step (p := bkp S (S 10 k) (S 11 k)) (i := i) (n := n) (by omega) (Bool.eq_false_iff.mpr hb)
              rw [show n - i = m + 1 by omega, show n - (i + 1) = m by omega] at e9
              rw [e9]
              exact ih (i + 1) (by omega) (by omega)
      exact absurd e (g n 0 (by omega) (by omega))
    · simp only [bkp, Bool.and_eq_true, decide_eq_true_eq] at h3
      have hjk : j = k := by
        rcases Nat.lt_trichotomy j k with h9 | h9 | h9
        · exact absurd h3 (h j k h9 hk)
        · exact h9
        · exact absurd ⟨h3.1.symm, h3.2.symm⟩ (h k j h9 h2)
      subst hjk
      exact h4
def CO2 (n : Nat) (S : CT) : Prop := S 16 5 = sm (S 13) 0 n 0 + S 16 6 ∧ S 16 7 = S 16 8 + S 16 1 ∧ ∀ i j, i < j → j < n → ¬ (S 10 i = S 10 j ∧ S 11 i = S 11 j)
theorem co_iff {S : CT} (hn : bcO S ≤ 30) : CO S ↔ CO2 (bcO S) S := by
  unfold CO CO2
  rw [sub3, sub3, db_iff hn]
  rfl
theorem CO2.rem {n p d : Nat} {X Y : CT} {old : Int32} (hp : p + d ≤ n) (h5 : X 16 5 = sm (X 13) 0 n 0 + old) (h6 : X 16 6 = old + sm (X 13) p d 0) (h7 : X 16 7 = X 16 8 + X 16 1) (hd : ∀ i j, i < j → j < n → ¬ (X 10 i = X 10 j ∧ X 11 i = X 11 j)) (hY : Y = s_remove X p (p + d) n) : CO2 (n - d) Y := by
  have row : ∀ r, 10 ≤ r → r ≤ 14 → ∀ j, j < n - d → Y r j = X r (if j < p then j else j + d) := fun r h1 h2 j hj => by
    have h0 : Y r = va_cpy (X r) (X r) (p + d) p (n - (p + d)) := by
      have h9 : r = 10 ∨ r = 11 ∨ r = 12 ∨ r = 13 ∨ r = 14 := by omega
      rw [hY]
      rcases h9 with rfl | rfl | rfl | rfl | rfl <;> rfl
    rw [h0]
    by_cases h : j < p
    · rw [pk_cpy_out (Or.inl h), if_pos h]
    · rw [pk_cpy_in (by omega) (by omega), if_neg h]
      congr 1
      omega
  have y16 : ∀ j, j ≠ 12 → Y 16 j = X 16 j := fun j hj => by
    rw [hY]
    show upd (X 16) 12 _ j = _
    exact if_neg hj
  refine ⟨?_, ?_, fun i j hij hj => ?_⟩
  · rw [y16 5 (by decide), y16 6 (by decide), h5, h6, sm_rem (X 13) (Y 13) hp (row 13 (by decide) (by decide)), Int32.add_assoc, Int32.add_comm old]
  · rw [y16 7 (by decide), y16 8 (by decide), y16 1 (by decide)]
    exact h7
  · rw [row 10 (by decide) (by decide) i (by omega), row 10 (by decide) (by decide) j hj, row 11 (by decide) (by decide) i (by omega), row 11 (by decide) (by decide) j hj]
    exact hd _ _ (by split <;> split <;> omega) (by split <;> omega)
theorem pay7 {a b c r : Int32} (h : a = b + c) : a = (b + r) + (c - r) := by
  rw [h, Int32.add_assoc, Int32.add_comm r, Int32.sub_add_cancel]
theorem CO2.sellT {n i : Nat} {T : CT} (hT : CO2 n T) (hi : i < n) (cp pr : Int32) : CO2 n (s_sellT T i cp pr) := by
  obtain ⟨h1, h2, h3⟩ := hT
  refine ⟨?_, ?_, h3⟩
  · show T 16 5 + cp = sm (upd (T 13) i (T 13 i + cp)) 0 n 0 + T 16 6
    rw [sm_upd _ _ hi, h1, i_arc]
  · show T 16 7 + pr = T 16 8 + (T 16 1 + pr)
    rw [h2, Int32.add_assoc]
theorem CO2.sellAt {n f : Nat} {T : CT} (hT : CO2 n T) : CO2 n (s_sellAt T f n 3) := by
  have g : ∀ m i (p : CT × Int32), i + m = n → CO2 n p.1 → CO2 n (fo (s_sellB (T 4 f) f 3) i m p).1 := by
    intro m
    induction m with
    | zero => exact fun _ _ _ h => h
    | succ m ih =>
      intro i p hi hp
      refine ih (i + 1) _ (by omega) ?_
      unfold s_sellB
      split
      · split
        · exact hp
        · exact hp.sellT (by omega) _ _
      · exact hp
  exact g n 0 (T, T 6 f) (by omega) hT
theorem CO2.judge {n mc vg w9 : Nat} {T : CT} (hT : HV n mc T) (hC : CO2 n T) (hvg : vg < 3) : CO2 (bcO (s_judge T vg w9 n 3 mc)) (s_judge T vg w9 n 3 mc) := by
  obtain ⟨c5, c7, cd⟩ := hC
  rcases placeOf_cases T (nI vg) (T 16 0) n with e | ⟨k, hk, e, -, -⟩
  · have h9 : s_judge T vg w9 n 3 mc = T := if_pos e
    rw [h9, hT.bc]
    exact ⟨c5, c7, cd⟩
  · have one : ∀ (f : Nat → Int32) (o : Int32), o + f k = o + sm f k 1 0 := fun f o => by
      show _ = o + (0 + f k)
      rw [Int32.zero_add]
    by_cases c1 : T 12 k = nI w9
    · rw [bc_hit hT hk hvg e c1]
      exact CO2.rem (X := us (us (us T 16 2 (T 16 2 + 1)) 2 vg (clampT (T 2 vg + 5))) 16 6 (T 16 6 + T 13 k)) (old := T 16 6) (p := k) (d := 1) (by omega) c5 (one (T 13) _) c7 cd (judge_hit hT hk hvg e c1)
    · rw [bc_miss hT hk hvg e c1]
      have hj := judge_miss hT hk hvg e c1
      rw [s_judgeEnd] at hj
      have mk : ∀ r, r ≠ 15 → r ≠ 16 → s_memAdd (us T 16 3 (T 16 3 + 1)) (nI vg) (T 16 0) mc r = T r := fun r h1 h2 => by
        rw [mem_k _ _ _ _ h1 h2]
        show (if r = 16 then _ else _) = _
        rw [if_neg h2]
      have m16 : ∀ j, j ≠ 13 → s_memAdd (us T 16 3 (T 16 3 + 1)) (nI vg) (T 16 0) mc 16 j = (us T 16 3 (T 16 3 + 1)) 16 j := fun j hj => s_memAdd_16 _ _ _ _ _ hj
      obtain ⟨M, hM⟩ : ∃ M, M = s_memAdd (us T 16 3 (T 16 3 + 1)) (nI vg) (T 16 0) mc := ⟨_, rfl⟩
      rw [← hM] at mk m16 hj
      obtain ⟨r, hr⟩ : ∃ r, r = (if w9 = 2 then T 14 k + 10 else T 14 k / 2) := ⟨_, rfl⟩
      rw [← hr] at hj
      refine CO2.rem (old := T 16 6) (p := k) (d := 1) (by omega) ?_ ?_ ?_ ?_ hj
      · show M 16 5 = sm (M 13) 0 n 0 + T 16 6
        rw [m16 5 (by decide), mk 13 (by decide) (by decide)]
        exact c5
      · show M 16 6 + M 13 k = T 16 6 + sm (M 13) k 1 0
        rw [m16 6 (by decide), mk 13 (by decide) (by decide)]
        exact one (T 13) _
      · show M 16 7 = (M 16 8 + r) + (M 16 1 - r)
        rw [m16 7 (by decide), m16 8 (by decide), m16 1 (by decide)]
        exact pay7 c7
      · show ∀ i j, i < j → j < n → ¬ (M 10 i = M 10 j ∧ M 11 i = M 11 j)
        rw [mk 10 (by decide) (by decide), mk 11 (by decide) (by decide)]
        exact cd
/-- the whole invariant, but for the day -/
def INV (S : CT) : Prop := HV (bcO S) (mcO S) S ∧ CO2 (bcO S) S
theorem INV.vil {T : CT} {vg : Nat} (h : INV T) (hv : vg < 3) : INV (s_vilB vg T) := by
  refine ⟨vil_hv h.1 hv, ?_⟩
  have h9 := CO2.judge (n := bcO T) (mc := mcO T) (w9 := s_drawW T) (T := s_draw T) (draw_hv h.1) h.2 hv
  rw [s_vilB, h.1.vc]
  exact h9
theorem INV.fair {T : CT} {f : Nat} (h : INV T) (hf : f < 2) : INV (s_fairB f T) := by
  have e1 : bcO (s_fairB f T) = bcO T := by
    unfold s_fairB
    split
    · exact congrArg Int32.toNatClampNeg (s_sellAt_16 _ _ _ _ 12 (by decide) (by decide) (by decide))
    · rfl
  have e2 : mcO (s_fairB f T) = mcO T := by
    unfold s_fairB
    split
    · exact congrArg Int32.toNatClampNeg (s_sellAt_16 _ _ _ _ 13 (by decide) (by decide) (by decide))
    · rfl
  refine ⟨by rw [e1, e2]; exact fairB_hv hf h.1, ?_⟩
  rw [e1]
  unfold s_fairB
  split
  · rw [h.1.vc]; exact h.2.sellAt
  · exact h.2
theorem INV.year {T : CT} (h : INV T) : INV (s_closeYear T) := by
  have eb : bcO (s_closeYear T) = bcO T := congrArg Int32.toNatClampNeg (s_closeYear_16 T 12)
  have em : mcO (s_closeYear T) = mcO T := congrArg Int32.toNatClampNeg (s_closeYear_16 T 13)
  refine ⟨by rw [eb, em]; exact cy_hv h.1, ?_⟩
  rw [eb]
  obtain ⟨D, d1, d2, d3, d4⟩ := cyear h.1
  obtain ⟨c5, c7, cd⟩ := h.2
  rw [d1]
  refine ⟨?_, ?_, ?_⟩
  · show D 16 5 = sm (D 13) 0 (bcO T) 0 + D 16 6
    rw [d3 16 (by decide), d3 13 (by decide)]
    exact c5
  · show D 16 7 = D 16 8 + D 16 1
    rw [d3 16 (by decide)]
    exact c7
  · show ∀ i j, i < j → j < bcO T → ¬ (D 10 i = D 10 j ∧ D 11 i = D 11 j)
    rw [d3 10 (by decide), d3 11 (by decide)]
    exact cd
theorem INV.day {S : CT} {dy : Nat} (h : INV S) (hd : S 16 0 = nI dy) (h1 : dy + 1 ≤ 1000) : INV (s_day S) := by
  have h0 := h.1.d1 hd h1
  rw [day_unf h0]
  have hX : INV (us S 16 0 (S 16 0 + 1)) := ⟨h0, h.2⟩
  have h3 := (((hX.fair (f := 0) (by decide)).fair (f := 1) (by decide)).vil (vg := 0) (by decide)).vil (vg := 1) (by decide) |>.vil (vg := 2) (by decide)
  unfold s_dayY
  split
  · exact h3.year
  · exact h3
theorem INV.days {S : CT} {dy : Nat} (h : INV S) (hd : S 16 0 = nI dy) : ∀ m, dy + m ≤ 1000 → INV (s_days m S) ∧ s_days m S 16 0 = nI (dy + m)
  | 0, _ => ⟨h, hd⟩
  | m + 1, hm => by
    obtain ⟨i1, i2⟩ := h.days hd m (by omega)
    rw [days_suc]
    exact ⟨i1.day i2 (by omega), (day_hv i1.1 i2 (by omega)).2⟩
theorem INV.book {S : CT} {v t : Nat} {d : Int32} (h : INV S) (hv : v < 3) (hr : s_refusal S (nI v) d (bcO S) = 0) : INV (s_bookAdd S (nI v) d (nI t) (bcO S)) := by
  obtain ⟨hS, c5, c7, cd⟩ := h
  have hn := hS.1.2
  obtain ⟨n, hnn⟩ : ∃ n, n = bcO S := ⟨_, rfl⟩
  rw [← hnn] at hS c5 cd hr hn ⊢
  have hmc : mcO S = mcO S := rfl
  have hpl : s_placeOf S (nI v) d n = -1 ∧ n < 30 := by
    unfold s_refusal at hr
    split at hr
    · split at hr
      · next h1 =>
        split at hr
        · next h2 => exact ⟨h1, h2⟩
        · exact absurd hr (by decide)
      · exact absurd hr (by decide)
    · exact absurd hr (by decide)
  have hno : ∀ i, i < n → ¬ (S 10 i = nI v ∧ S 11 i = d) := fun i hi he => by
    have g : ∀ m k, k ≤ i → k + m = n → fnd (bkp S (nI v) d) k m ≠ -1 := by
      intro m
      induction m with
      | zero => exact fun k h1 h2 => absurd h1 (by omega)
      | succ m ih =>
        intro k h1 h2
        by_cases hb : bkp S (nI v) d k = true
        · have e9 := fnd_hit (p := bkp S (nI v) d) (i := k) (n := n) (by omega) hb
          rw [show n - k = m + 1 by omega] at e9
          rw [e9]
          exact nI_ne_m1 (by omega)
        · by_cases hik : k = i
          · subst hik
            exact absurd (by simp [bkp, he.1, he.2]) hb
          · have e9 := fnd_step (p := bkp S (nI v) d) (i := k) (n := n) (by omega) (Bool.eq_false_iff.mpr hb)
            rw [show n - k = m + 1 by omega, show n - (k + 1) = m by omega] at e9
            rw [e9]
            exact ih (k + 1) (by omega) (by omega)
    exact g n 0 (by omega) (by omega) hpl.1
  have eb : bcO (s_bookAdd S (nI v) d (nI t) n) = n + 1 := nI_clamp (by omega)
  have em : mcO (s_bookAdd S (nI v) d (nI t) n) = mcO S := rfl
  have r10 : ∀ i, i < n → s_bookAdd S (nI v) d (nI t) n 10 i = S 10 i := fun i hi => (if_neg (by omega) : upd (S 10) n (nI v) i = S 10 i)
  have r11 : ∀ i, i < n → s_bookAdd S (nI v) d (nI t) n 11 i = S 11 i := fun i hi => (if_neg (by omega) : upd (S 11) n d i = S 11 i)
  have r13 : ∀ i, i < n → s_bookAdd S (nI v) d (nI t) n 13 i = S 13 i := fun i hi => (if_neg (by omega) : upd (S 13) n 0 i = S 13 i)
  have n10 : s_bookAdd S (nI v) d (nI t) n 10 n = nI v := if_pos rfl
  have n11 : s_bookAdd S (nI v) d (nI t) n 11 n = d := if_pos rfl
  have n13 : s_bookAdd S (nI v) d (nI t) n 13 n = 0 := if_pos rfl
  unfold INV
  rw [eb, em]
  obtain ⟨h1, h2, h3, h4, h5, h6, h7, h8, h9⟩ := hS
  refine ⟨⟨⟨rfl, by omega⟩, h2, h3, fun k hk => ?_, h5, h6, h7, h8, h9⟩, ?_, c7, fun i j hij hj => ?_⟩
  · by_cases hkn : k = n
    · subst hkn
      exact ⟨v, 0, hv, by omega, n10, n13⟩
    · rw [r10 k (by omega), r13 k (by omega)]
      exact h4 k (by omega)
  · show S 16 5 = sm (s_bookAdd S (nI v) d (nI t) n 13) 0 (n + 1) 0 + S 16 6
    rw [show sm (s_bookAdd S (nI v) d (nI t) n 13) 0 (n + 1) 0 = sm (s_bookAdd S (nI v) d (nI t) n 13) 0 n 0 + s_bookAdd S (nI v) d (nI t) n 13 (0 + n) from fo_back _ n 0 0, Nat.zero_add, n13, Int32.add_zero, sm_congr (g := S 13) n 0 0 (fun j a b => r13 j (by omega))]
    exact c5
  · by_cases hjn : j = n
    · subst hjn
      rw [n10, n11, r10 i (by omega), r11 i (by omega)]
      exact hno i (by omega)
    · rw [r10 i (by omega), r11 i (by omega), r10 j (by omega), r11 j (by omega)]
      exact cd i j hij (by omega)
theorem upd3 (F : Nat → Int32) (z r : Int32) : upd (upd (upd F 12 z) 1 (upd F 12 z 1 - r)) 8 (upd F 12 z 8 + r) = upd (upd (upd F 1 (F 1 - r)) 8 (F 8 + r)) 12 z := by
  funext b
  by_cases h8 : b = 8
  · subst h8; rfl
  · by_cases h1 : b = 1
    · subst h1; rfl
    · by_cases h12 : b = 12
      · subst h12; rfl
      · unfold upd
        rw [if_neg h8, if_neg h1, if_neg h12, if_neg h12, if_neg h8, if_neg h1]
theorem INV.back {S : CT} {pg : Nat} (h : INV S) (hpg : 4 * pg < bcO S) : INV (s_takeBack S pg (bcO S) 3) := by
  obtain ⟨hS, c5, c7, cd⟩ := h
  have hn := hS.1.2
  obtain ⟨eb, em⟩ := tb_cnt hS hpg
  obtain ⟨n, hnn⟩ : ∃ n, n = bcO S := ⟨_, rfl⟩
  rw [← hnn] at hS c5 cd hn eb em hpg ⊢
  unfold INV
  rw [eb, em]
  obtain ⟨e, he⟩ : ∃ e, e = min n (4 * pg + 4) := ⟨_, rfl⟩
  rw [← he]
  obtain ⟨l2, l3, l4, l5, l6⟩ := tb_loop (S := S) (n := n) hS.vr hS.tr (4 * pg) (e - 4 * pg) (by omega)
  obtain ⟨L, hL⟩ : ∃ L, L = fo (s_tbBody 3) (4 * pg) (e - 4 * pg) S := ⟨_, rfl⟩
  rw [← hL] at l2 l3 l4 l5 l6
  obtain ⟨r, hr⟩ : ∃ r, r = s_paidForPage S pg n := ⟨_, rfl⟩
  have hb : s_takeBack S pg n 3 = s_remove (s_payBack L r) (4 * pg) (4 * pg + (e - 4 * pg)) n := by
    rw [hL, hr, show 4 * pg + (e - 4 * pg) = e by omega, he]
    unfold s_takeBack s_tbLoop
    funext a
    by_cases h16 : a = 16
    · subst h16
      exact upd3 _ _ _
    · show (if a = 16 then _ else if a = 16 then _ else if a = 16 then _ else if a = 14 then _ else if a = 13 then _ else if a = 12 then _ else if a = 11 then _ else if a = 10 then _ else _) = (if a = 16 then _ else if a = 14 then _ else if a = 13 then _ else if a = 12 then _ else if a = 11 then _ else if a = 10 then _ else (if a = 16 then _ else if a = 16 then _ else _))
      rw [if_neg h16, if_neg h16, if_neg h16, if_neg h16, if_neg h16, if_neg h16]
      rfl
  have row : ∀ r9, 10 ≤ r9 → r9 ≤ 14 → ∀ j, j < n - (e - 4 * pg) → s_takeBack S pg n 3 r9 j = S r9 (if j < 4 * pg then j else j + (e - 4 * pg)) := fun r9 h1 h2 j hj => by
    have h0 : s_takeBack S pg n 3 r9 = va_cpy (L r9) (L r9) (4 * pg + (e - 4 * pg)) (4 * pg) (n - (4 * pg + (e - 4 * pg))) := by
      have h9 : r9 = 10 ∨ r9 = 11 ∨ r9 = 12 ∨ r9 = 13 ∨ r9 = 14 := by omega
      rw [hb]
      rcases h9 with rfl | rfl | rfl | rfl | rfl <;> rfl
    rw [h0, l3 r9 (by omega) (by omega)]
    by_cases h : j < 4 * pg
    · rw [pk_cpy_out (Or.inl h), if_pos h]
    · rw [pk_cpy_in (by omega) (by omega), if_neg h]
      congr 1
      omega
  have b16 : ∀ j, j ≠ 1 → j ≠ 8 → j ≠ 12 → j ≠ 4 → j ≠ 6 → s_takeBack S pg n 3 16 j = S 16 j := fun j h1 h2 h3 h4 h6 => by
    rw [hb]
    show upd (upd (upd (L 16) 1 _) 8 _) 12 _ j = _
    unfold upd
    rw [if_neg h3, if_neg h2, if_neg h1]
    exact l4 j h4 h6
  have ot : ∀ a, a ≠ 2 → a ≠ 16 → ¬ (10 ≤ a ∧ a ≤ 14) → s_takeBack S pg n 3 a = S a := fun a h1 h2 h3 => by
    rw [hb]
    show (if a = 16 then _ else if a = 14 then _ else if a = 13 then _ else if a = 12 then _ else if a = 11 then _ else if a = 10 then _ else (if a = 16 then _ else if a = 16 then _ else L a)) = _
    rw [if_neg h2, if_neg (by omega), if_neg (by omega), if_neg (by omega), if_neg (by omega), if_neg (by omega), if_neg h2, if_neg h2]
    exact l3 a h1 h2
  have b2 : s_takeBack S pg n 3 2 = L 2 := by rw [hb]; rfl
  have b12 : s_takeBack S pg n 3 16 12 = nI (n - (e - 4 * pg)) := by
    rw [hb]
    show nI (4 * pg + (n - (4 * pg + (e - 4 * pg)))) = _
    exact congrArg nI (by omega)
  obtain ⟨h1, h2, h3, h4, h5, h6, h7, h8, h9⟩ := hS
  refine ⟨⟨⟨b12, by omega⟩, ⟨by rw [b16 13 (by decide) (by decide) (by decide) (by decide) (by decide)]; exact h2.1, h2.2⟩, ⟨by rw [b16 9 (by decide) (by decide) (by decide) (by decide) (by decide)]; exact h3.1, by rw [b16 10 (by decide) (by decide) (by decide) (by decide) (by decide)]; exact h3.2⟩, fun k hk => ?_, fun k hk => ?_, by rw [s_sumO, ot 8 (by decide) (by decide) (by decide)]; exact h6, by rw [ot 4 (by decide) (by decide) (by decide), ot 5 (by decide) (by decide) (by decide), ot 6 (by decide) (by decide) (by decide)]; exact h7, by rw [b16 11 (by decide) (by decide) (by decide) (by decide) (by decide)]; exact h8, by rw [b16 0 (by decide) (by decide) (by decide) (by decide) (by decide)]; exact h9⟩, ?_⟩
  · rw [row 10 (by decide) (by decide) k hk, row 13 (by decide) (by decide) k hk]
    exact h4 _ (by split <;> omega)
  · obtain ⟨p, t, o, a1, a2, a3, a4, a5, a6, a7⟩ := h5 k hk
    rw [ot 1 (by decide) (by decide) (by decide), ot 8 (by decide) (by decide) (by decide), b2, l2 k t hk a6 a3]
    exact ⟨p, _, o, a1, a2, by omega, a4, a5, rfl, a7⟩
  · have hi := sm_init (S 13) (S 16 6) (e - 4 * pg) (4 * pg) 0
    rw [Int32.zero_add, Int32.add_comm (sm (S 13) (4 * pg) (e - 4 * pg) 0)] at hi
    refine CO2.rem (X := s_payBack L r) (old := S 16 6) (p := 4 * pg) (d := e - 4 * pg) (by omega) ?_ ?_ ?_ ?_ hb
    · show L 16 5 = sm (L 13) 0 n 0 + S 16 6
      rw [l4 5 (by decide) (by decide), l3 13 (by decide) (by decide)]
      exact c5
    · show L 16 6 = S 16 6 + sm (L 13) (4 * pg) (e - 4 * pg) 0
      rw [l6, l3 13 (by decide) (by decide)]
      exact hi
    · show L 16 7 = (L 16 8 + r) + (L 16 1 - r)
      rw [l4 7 (by decide) (by decide), l4 8 (by decide) (by decide), l4 1 (by decide) (by decide)]
      exact pay7 c7
    · show ∀ i j, i < j → j < n → ¬ (L 10 i = L 10 j ∧ L 11 i = L 11 j)
      rw [l3 10 (by decide) (by decide), l3 11 (by decide) (by decide)]
      exact cd
theorem tb_day {S : CT} {pg n : Nat} : s_takeBack S pg n 3 16 0 = S 16 0 := by
  show s_tbLoop S pg n 3 16 0 = S 16 0
  exact s_tbLoop_16 _ _ _ _ 0 (by decide) (by decide)
theorem INV.setT {S : CT} {v w : Nat} (h : INV S) (hv : v < 3) (hw : w ≤ 100) : INV (us S 2 v (nI w)) := ⟨h.1.trust hv ⟨w, hw, rfl⟩, h.2⟩
theorem INV.setP {S : CT} {v w : Nat} (h : INV S) (hv : v < 3) (hw : 1 ≤ w ∧ w ≤ 99) : INV (us S 1 v (nI w)) := by
  obtain ⟨⟨h1, h2, h3, h4, h5, h6, h7, h8, h9⟩, hC⟩ := h
  refine ⟨⟨h1, h2, h3, h4, fun k hk => ?_, h6, h7, h8, h9⟩, hC⟩
  obtain ⟨p, t, o, a1, a2, a3, a4, a5, a6, a7⟩ := h5 k hk
  by_cases hkv : k = v
  · subst hkv
    exact ⟨w, t, o, hw.1, hw.2, a3, a4, if_pos rfl, a6, a7⟩
  · exact ⟨p, t, o, a1, a2, a3, a4, (if_neg hkv : upd (S 1) v (nI w) k = S 1 k).trans a5, a6, a7⟩
theorem INV.setO {S : CT} {v w : Nat} (h : INV S) (hv : v < 3) (hw : w ≤ 20) (hne : ¬ S 8 0 + S 8 1 + S 8 2 - S 8 v + nI w = 0) : INV (us S 8 v (nI w)) := by
  obtain ⟨⟨h1, h2, h3, h4, h5, h6, h7, h8, h9⟩, hC⟩ := h
  refine ⟨⟨h1, h2, h3, h4, fun k hk => ?_, ?_, h7, h8, h9⟩, hC⟩
  · obtain ⟨p, t, o, a1, a2, a3, a4, a5, a6, a7⟩ := h5 k hk
    by_cases hkv : k = v
    · subst hkv
      exact ⟨p, t, w, a1, a2, a3, hw, a5, a6, if_pos rfl⟩
    · exact ⟨p, t, o, a1, a2, a3, a4, a5, a6, (if_neg hkv : upd (S 8) v (nI w) k = S 8 k).trans a7⟩
  · obtain ⟨p0, t0, o0, -, -, -, b0, -, -, f0⟩ := h5 0 (by decide)
    obtain ⟨p1, t1, o1, -, -, -, b1, -, -, f1⟩ := h5 1 (by decide)
    obtain ⟨p2, t2, o2, -, -, -, b2, -, -, f2⟩ := h5 2 (by decide)
    have hv' : v = 0 ∨ v = 1 ∨ v = 2 := by omega
    show ¬ upd (S 8) v (nI w) 0 + upd (S 8) v (nI w) 1 + upd (S 8) v (nI w) 2 = 0
    rw [f0, f1, f2, nI_add, nI_add] at hne
    rcases hv' with rfl | rfl | rfl
    · rw [f0, pk_sub (by omega), nI_add] at hne
      show ¬ nI w + S 8 1 + S 8 2 = 0
      rw [f1, f2, nI_add, nI_add]
      exact fun h => hne (by rw [← h]; exact congrArg nI (by omega))
    · rw [f1, pk_sub (by omega), nI_add] at hne
      show ¬ S 8 0 + nI w + S 8 2 = 0
      rw [f0, f2, nI_add, nI_add]
      exact fun h => hne (by rw [← h]; exact congrArg nI (by omega))
    · rw [f2, pk_sub (by omega), nI_add] at hne
      show ¬ S 8 0 + S 8 1 + nI w = 0
      rw [f0, f1, nI_add, nI_add]
      exact fun h => hne (by rw [← h]; exact congrArg nI (by omega))
theorem ls_acts {c : Nat} {S : CT} (hc : c < 38) (h : LQ c S) (y t q : Nat) (hq : q < 32) : LQ (c + 1) (hActs (bcO S) S y t q).2 := by
  obtain ⟨hS, ⟨dy, hdy, hdl⟩, hCO⟩ := h
  have hn := hS.1.2
  have hI : INV S := ⟨hS, (co_iff hn).mp hCO⟩
  have fin : ∀ X, INV X → (∃ d9, X 16 0 = nI d9 ∧ d9 ≤ 25 * (c + 1)) → LQ (c + 1) X := fun X hX hd => ⟨hX.1, hd, (co_iff hX.1.1.2).mpr hX.2⟩
  have same : ∃ d9, S 16 0 = nI d9 ∧ d9 ≤ 25 * (c + 1) := ⟨dy, hdy, by omega⟩
  unfold hActs
  split
  · exact fin S hI same
  · next hg =>
    split
    · unfold hPrint
      split
      · next hr => exact fin _ (hI.book (Nat.mod_lt _ (by decide)) hr) same
      · exact fin S hI same
    · split
      · next h1 h2 =>
        have hn0 : 0 < bcO S := Nat.pos_of_ne_zero (fun h9 => hg ⟨by omega, h2, h9⟩)
        have hpg : y % ((bcO S + 3) / 4) < (bcO S + 3) / 4 := Nat.mod_lt _ (by omega)
        unfold hRet
        split
        · exact fin S hI same
        · exact fin _ (hI.back (by omega)) ⟨dy, tb_day.trans hdy, by omega⟩
      · split
        · exact fin _ (hI.setT (Nat.mod_lt _ (by decide)) (by omega)) same
        · split
          · exact fin _ (hI.setP (Nat.mod_lt _ (by decide)) (by omega)) same
          · split
            · unfold hOdds
              split
              · exact fin S hI same
              · next hne => exact fin _ (hI.setO (Nat.mod_lt _ (by decide)) (by omega) hne) same
            · have hM3 : 0 < hM q ∧ hM q ≤ 25 := by rw [hM]; split <;> omega
              have hzm : t % hM q < hM q := Nat.mod_lt _ hM3.1
              obtain ⟨i1, i2⟩ := hI.days hdy (t % hM q + 1) (by omega)
              exact fin _ i1 ⟨_, i2, by omega⟩
/-! the parse of the law's text -/
/-- from p on the text is L -/
def Sf (f : RT) (il p : Nat) (L : List Nat) : Prop := il = p + L.length ∧ ∀ j, j < L.length → f (p + j) = nI (L.getD j 0)
theorem getD_app_l {A B : List Nat} {j : Nat} (h : j < A.length) : (A ++ B).getD j 0 = A.getD j 0 := by rw [List.getD_eq_getElem?_getD, List.getD_eq_getElem?_getD, List.getElem?_append_left h]
theorem getD_app_r {A B : List Nat} (j : Nat) : (A ++ B).getD (A.length + j) 0 = B.getD j 0 := by rw [List.getD_eq_getElem?_getD, List.getD_eq_getElem?_getD, List.getElem?_append_right (by omega), Nat.add_sub_cancel_left]
theorem Sf.drop {f : RT} {il p : Nat} {A B : List Nat} (h : Sf f il p (A ++ B)) : Sf f il (p + A.length) B := by
  obtain ⟨h1, h2⟩ := h
  rw [List.length_append] at h1 h2
  refine ⟨by omega, fun j hj => ?_⟩
  have h9 := h2 (A.length + j) (by omega)
  rw [getD_app_r] at h9
  rw [← h9, Nat.add_assoc]
theorem Sf.at {f : RT} {il p : Nat} {A B : List Nat} (h : Sf f il p (A ++ B)) {j : Nat} (hj : j < A.length) : f (p + j) = nI (A.getD j 0) := by
  have h9 := h.2 j (by rw [List.length_append]; omega)
  rw [getD_app_l hj] at h9
  exact h9
theorem run_len {P : Int32 → Bool} {f : RT} {il : Nat} : ∀ (m i : Nat), (∀ j, j < m → P (f (i + j)) = true) → i + m ≤ il → (i + m < il → P (f (i + m)) = false) → q_run P f (il - i) i = i + m
  | 0, i, _, h2, h3 => by
    by_cases h : i < il
    · exact q_run_stop (h3 h)
    · exact q_run_end (by omega)
  | m + 1, i, h1, h2, h3 => by
    rw [q_run_go (by omega) (show P (f i) = true from h1 0 (by omega)), run_len m (i + 1) (fun j hj => by rw [show i + 1 + j = i + (j + 1) by omega]; exact h1 (j + 1) (by omega)) (by omega) (fun h => by rw [show i + 1 + m = i + (m + 1) by omega]; exact h3 (by omega))]
    omega
def isL (c : Nat) : Prop := 97 ≤ c ∧ c ≤ 122
def isD (c : Nat) : Prop := 48 ≤ c ∧ c ≤ 57
theorem let_iff {c : Nat} (h : c < 1000) : q_let (nI c) ↔ isL c := by
  unfold isL
  constructor
  · intro h9
    have a : ¬ c < 97 := fun h8 => h9.1 ((nI_ltI (a := c) (b := 97) (by omega) (by decide)).mpr h8)
    have b : ¬ 122 < c := fun h8 => h9.2 ((nI_ltI (a := 122) (b := c) (by decide) (by omega)).mpr h8)
    omega
  · intro h9
    exact ⟨nI_nlt (a := c) (b := 97) h9.1 (by omega), nI_nlt (a := 122) (b := c) h9.2 (by decide)⟩
theorem dig_iff {c : Nat} (h : c < 1000) : q_dig (nI c) ↔ isD c := by
  unfold isD
  constructor
  · intro h9
    have a : ¬ c < 48 := fun h8 => h9.1 ((nI_ltI (a := c) (b := 48) (by omega) (by decide)).mpr h8)
    have b : ¬ 57 < c := fun h8 => h9.2 ((nI_ltI (a := 57) (b := c) (by decide) (by omega)).mpr h8)
    omega
  · intro h9
    exact ⟨nI_nlt (a := c) (b := 48) h9.1 (by omega), nI_nlt (a := 57) (b := c) h9.2 (by decide)⟩
theorem bl_iff {c : Nat} (h : c < 1000) : q_bl (nI c) ↔ c = 32 ∨ c = 10 := by
  constructor
  · intro h9
    rcases h9 with h9 | h9
    · exact Or.inl (nI_ij (by omega) (by decide) (h9 : nI c = nI 32))
    · exact Or.inr (nI_ij (by omega) (by decide) (h9 : nI c = nI 10))
  · intro h9
    rcases h9 with rfl | rfl
    · exact Or.inl rfl
    · exact Or.inr rfl
/-- blanks: none or one -/
theorem ts_eq {f : RT} {il p : Nat} {B T : List Nat} (hB : B = [] ∨ B = [32]) (h : Sf f il p (B ++ T)) (hT : ∀ c R, T = c :: R → c < 1000 ∧ c ≠ 32 ∧ c ≠ 10) : tS f il p = p + B.length := by
  have hd := h.drop
  refine run_len B.length p (fun j hj => ?_) (by have := hd.1; omega) (fun h9 => ?_)
  · rcases hB with rfl | rfl
    · exact absurd hj (Nat.not_lt_zero _)
    · have hj0 : j = 0 := by have : j < 1 := hj; omega
      subst hj0
      rw [h.at (by decide)]
      rfl
  · cases T with
    | nil => have := hd.1; simp at this; omega
    | cons c R =>
      obtain ⟨h1, h2, h3⟩ := hT c R rfl
      have e := hd.2 0 (by simp)
      rw [Nat.add_zero] at e
      rw [e]
      exact decide_eq_false (fun h8 => ((bl_iff h1).mp h8).elim h2 h3)
theorem tokW {f : RT} {il p : Nat} {B T R : List Nat} (hB : B = [] ∨ B = [32]) (h : Sf f il p (B ++ (T ++ R))) (hT0 : T ≠ []) (hT : ∀ c ∈ T, isL c) (hR : ∀ c R9, R = c :: R9 → c < 1000 ∧ ¬ isL c) : tS f il p = p + B.length ∧ tK f il p = 3 ∧ tE f il p = p + B.length + T.length ∧ Sf f il (p + B.length) (T ++ R) ∧ Sf f il (tE f il p) R := by
  obtain ⟨c0, T9, hT9⟩ : ∃ c T9, T = c :: T9 := by
    cases T with
    | nil => exact absurd rfl hT0
    | cons c T9 => exact ⟨c, T9, rfl⟩
  have hl0 : isL c0 := hT c0 (by rw [hT9]; exact List.mem_cons_self)
  have e1 : tS f il p = p + B.length := ts_eq hB h (fun c R9 he => by
    rw [hT9] at he
    obtain ⟨rfl, -⟩ := List.cons.inj (he : c0 :: (T9 ++ R) = c :: R9)
    have := hl0.1; have := hl0.2; omega)
  have hd := h.drop
  have hd2 := hd.drop
  have h0 : f (p + B.length) = nI c0 := by
    have h9 := hd.at (j := 0) (by rw [hT9]; simp)
    rw [Nat.add_zero, hT9] at h9
    exact h9
  have hlt : p + B.length < il := by
    have h1 := hd.1
    rw [hT9] at h1
    simp at h1
    omega
  have e2 : tK f il p = 3 := by
    unfold tK
    rw [e1, if_neg (by omega), h0, if_pos ((let_iff (by have := hl0.2; omega)).mpr hl0)]
  have e3 : tE f il p = p + B.length + T.length := by
    unfold tE
    rw [e2, if_neg (by decide), if_pos rfl, e1]
    refine run_len T.length (p + B.length) (fun j hj => ?_) (by have := hd2.1; omega) (fun h9 => ?_)
    · rw [hd.at hj]
      have hm : T.getD j 0 ∈ T := by rw [List.getD_eq_getElem?_getD, List.getElem?_eq_getElem hj]; exact List.getElem_mem hj
      have hc := hT _ hm
      exact decide_eq_true ((let_iff (by have := hc.2; omega)).mpr hc)
    · cases R with
      | nil => have := hd2.1; simp at this; omega
      | cons c R9 =>
        obtain ⟨h1, h2⟩ := hR c R9 rfl
        have e := hd2.2 0 (by simp)
        rw [Nat.add_zero] at e
        rw [e]
        exact decide_eq_false (fun h8 => h2 ((let_iff h1).mp h8))
  exact ⟨e1, e2, e3, hd, by rw [e3]; exact hd2⟩
theorem dw_step {f : RT} {j a d : Nat} (hf : f j = nI (48 + d)) (hd : d < 10) (ha : a < 10000) : q_dw f j (nI a) = nI (10 * a + d) := by
  have e : 10 * nI a + f j - 48 = nI (10 * a + d) := by
    rw [hf, show (10 : Int32) = nI 10 from rfl, pk_mul, nI_add, show (48 : Int32) = nI 48 from rfl, pk_sub (by omega)]
    exact congrArg nI (by omega)
  unfold q_dw
  rw [e, if_pos (show nI (10 * a + d) < 1000000 from nI_lt (b := 1000000) (by omega) (by decide))]
theorem dgs_pow {v : Nat} (hv : v ≤ 9999) : v < 10 ^ dgs v := by
  unfold dgs
  split
  · simpa using ‹_›
  · split
    · simpa using ‹_›
    · split
      · simpa using ‹_›
      · show v < 10000
        omega
theorem num_val {f : RT} {s v : Nat} (hv : v ≤ 9999) (h : ∀ i, i < dgs v → f (s + i) = nI ((numL v).getD i 0)) : fo (q_dw f) s (dgs v) 0 = nI v := by
  have g : ∀ m, m ≤ dgs v → fo (q_dw f) s m 0 = nI (v / 10 ^ (dgs v - m)) := by
    intro m
    induction m with
    | zero =>
      intro _
      have := dgs_pow hv
      rw [Nat.sub_zero, Nat.div_eq_of_lt this]
      rfl
    | succ m ih =>
      intro hm
      have hf := h m (by omega)
      rw [numL_get (by omega)] at hf
      have hlt : v / 10 ^ (dgs v - m) < 10000 := Nat.lt_of_le_of_lt (Nat.div_le_self _ _) (by omega)
      rw [fo_back, ih (by omega), dw_step hf (Nat.mod_lt _ (by decide)) hlt]
      refine congrArg nI ?_
      have e1 : dgs v - m = (dgs v - 1 - m) + 1 := by omega
      rw [e1, Nat.pow_succ, ← Nat.div_div_eq_div_mul, show dgs v - (m + 1) = dgs v - 1 - m by omega]
      omega
  have h9 := g (dgs v) (Nat.le_refl _)
  rw [Nat.sub_self, Nat.pow_zero, Nat.div_one] at h9
  exact h9
theorem numL_isD (v : Nat) : ∀ c ∈ numL v, isD c := fun c hc => by
  obtain ⟨i, -, rfl⟩ := List.mem_map.mp hc
  unfold isD
  omega
theorem tokN {f : RT} {il p v : Nat} {B R : List Nat} (hB : B = [] ∨ B = [32]) (hv : v ≤ 9999) (h : Sf f il p (B ++ (numL v ++ R))) (hR : ∀ c R9, R = c :: R9 → c < 1000 ∧ ¬ isD c) : tK f il p = 2 ∧ tW f il p = nI v ∧ Sf f il (tE f il p) R := by
  have hl := numL_len v
  have hd1 := (dgs_le v).1
  obtain ⟨c0, T9, hT9⟩ : ∃ c T9, numL v = c :: T9 := by
    cases hq : numL v with
    | nil => rw [hq] at hl; simp at hl; omega
    | cons c T9 => exact ⟨c, T9, rfl⟩
  have hl0 : isD c0 := numL_isD v c0 (by rw [hT9]; exact List.mem_cons_self)
  have e1 : tS f il p = p + B.length := ts_eq hB h (fun c R9 he => by
    rw [hT9] at he
    obtain ⟨rfl, -⟩ := List.cons.inj (he : c0 :: (T9 ++ R) = c :: R9)
    have := hl0.1; have := hl0.2; omega)
  have hd := h.drop
  have hd2 := hd.drop
  have h0 : f (p + B.length) = nI c0 := by
    have h9 := hd.at (j := 0) (by rw [hl]; omega)
    rw [Nat.add_zero, hT9] at h9
    exact h9
  have hlt : p + B.length < il := by
    have h1 := hd.1
    rw [List.length_append, hl] at h1
    omega
  have hnl : ¬ isL c0 := fun h9 => by have := h9.1; have := hl0.2; omega
  have e2 : tK f il p = 2 := by
    unfold tK
    rw [e1, if_neg (by omega), h0, if_neg (fun h9 => hnl ((let_iff (by have := hl0.2; omega)).mp h9)), if_pos ((dig_iff (by have := hl0.2; omega)).mpr hl0)]
  have e3 : tE f il p = p + B.length + dgs v := by
    unfold tE
    rw [e2, if_neg (by decide), if_neg (by decide), if_pos rfl, e1]
    refine run_len (dgs v) (p + B.length) (fun j hj => ?_) (by have := hd2.1; rw [hl] at this; omega) (fun h9 => ?_)
    · rw [hd.at (by rw [hl]; exact hj)]
      have hj' : j < (numL v).length := by rw [hl]; exact hj
      have hm : (numL v).getD j 0 ∈ numL v := by rw [List.getD_eq_getElem?_getD, List.getElem?_eq_getElem hj']; exact List.getElem_mem hj'
      have hc := numL_isD v _ hm
      exact decide_eq_true ((dig_iff (by have := hc.2; omega)).mpr hc)
    · cases R with
      | nil => have := hd2.1; simp [hl] at this; omega
      | cons c R9 =>
        obtain ⟨h1, h2⟩ := hR c R9 rfl
        have e := hd2.2 0 (by simp)
        rw [Nat.add_zero, hl] at e
        rw [e]
        exact decide_eq_false (fun h8 => h2 ((dig_iff h1).mp h8))
  refine ⟨e2, ?_, by rw [e3, ← hl]; exact hd2⟩
  unfold tW
  rw [if_pos e2, e1, e3, Nat.add_sub_cancel_left]
  exact num_val hv (fun i hi => hd.at (by rw [hl]; exact hi))
theorem tokS {f : RT} {il p : Nat} {R : List Nat} (h : Sf f il p (59 :: R)) : p_semi f il p ∧ Sf f il (tE f il p) R := by
  have e1 : tS f il p = p := ts_eq (B := []) (Or.inl rfl) h (fun c R9 he => by
    obtain ⟨rfl, -⟩ := List.cons.inj he
    omega)
  have h0 : f p = nI 59 := by
    have h9 := h.2 0 (by simp)
    rw [Nat.add_zero] at h9
    exact h9
  have hlt : p < il := by have := h.1; simp at this; omega
  have e2 : tK f il p = 1 := by
    unfold tK
    rw [e1, if_neg (by omega), h0, if_neg (by decide), if_neg (by decide)]
  have e3 : tE f il p = p + 1 := by
    unfold tE
    rw [e2, if_neg (by decide), if_neg (by decide), if_neg (by decide), e1]
  refine ⟨⟨e2, by rw [e1, h0]; rfl⟩, ?_⟩
  rw [e3]
  exact Sf.drop (A := [59]) h
theorem tok0 {f : RT} {il p : Nat} (h : Sf f il p []) : tK f il p = 0 := by
  have e1 : tS f il p = p := ts_eq (B := []) (T := []) (Or.inl rfl) h (fun c R9 he => by cases he)
  unfold tK
  rw [e1, if_pos (by have := h.1; simp at this; omega)]
/-! its statements -/
section STM
variable {f : RT} {il : Nat}
theorem chk_ok {α : Type} {P : Prop} [Decidable P] {w : Int32} {t : PS α} (h0 : t.2.2.1 = 0) (h : P) : p_chk f il P w t = t := by rw [p_chk, if_pos h0, if_pos h]
theorem nxt_ok {α : Type} (S : α) (e : Nat) (z : Int32) : p_nxt f il (S, e, 0, z) = (S, tE f il e, 0, z) := if_pos rfl
/-- a token that is a number within its bounds -/
theorem num_ok {S : CT} {e v : Nat} {z lo hi : Int32} (hk : tK f il (tE f il e) = 2) (hw : tW f il (tE f il e) = nI v) (h1 : ¬ nI v < lo) (h2 : ¬ hi < nI v) : c_num f il (S, e, 0, z) lo hi = (S, tE f il e, 0, z) := by
  unfold c_num
  rw [nxt_ok]
  unfold p_lkG p_tk
  rw [chk_ok (t := (S, tE f il e, (0 : Int32), z)) rfl hk, hw, chk_ok (t := (S, tE f il e, (0 : Int32), z)) rfl ⟨h1, h2⟩]
theorem sem_ok {S : CT} {e : Nat} {z : Int32} (h : p_semi f il (tE f il e)) : c_sem f il (S, e, 0, z) = (S, tE f il e, 0, z) := by
  unfold c_sem
  rw [nxt_ok]
  unfold p_sc
  exact chk_ok (t := (S, tE f il e, (0 : Int32), z)) rfl h
theorem wd_ok {S : CT} {e : Nat} {z : Int32} (h : tK f il (tE f il e) = 3) : c_wd f il (S, e, 0, z) = (S, tE f il e, 0, z) := by
  unfold c_wd
  rw [nxt_ok]
  unfold p_wd
  exact chk_ok (t := (S, tE f il e, (0 : Int32), z)) rfl h
theorem h32 {R : List Nat} : ∀ c R9, (32 :: R) = c :: R9 → c < 1000 ∧ ¬ isL c := fun c R9 h => by
  obtain ⟨rfl, -⟩ := List.cons.inj h
  exact ⟨by decide, fun h9 => by have := h9.1; omega⟩
theorem d32 {R : List Nat} : ∀ c R9, (32 :: R) = c :: R9 → c < 1000 ∧ ¬ isD c := fun c R9 h => by
  obtain ⟨rfl, -⟩ := List.cons.inj h
  exact ⟨by decide, fun h9 => by have := h9.1; omega⟩
theorem d59 {R : List Nat} : ∀ c R9, (59 :: R) = c :: R9 → c < 1000 ∧ ¬ isD c := fun c R9 h => by
  obtain ⟨rfl, -⟩ := List.cons.inj h
  exact ⟨by decide, fun h9 => by have := h9.2; omega⟩
/-- a name of one letter -/
theorem nm_1 {p c : Nat} {R : List Nat} (h : Sf f il p (32 :: ([c] ++ (32 :: R)))) (hc : isL c) : tK f il p = 3 ∧ b_nm f il (tS f il p) (tE f il p) = nI c ∧ Sf f il (tE f il p) (32 :: R) := by
  obtain ⟨e1, e2, e3, e4, e5⟩ := tokW (B := [32]) (T := [c]) (Or.inr rfl) h (by simp) (fun x hx => by rw [List.mem_singleton.mp hx]; exact hc) h32
  have h0 : f (p + 1) = nI c := by
    have h9 := e4.at (j := 0) (by simp)
    exact h9
  have hlt : p + 1 < il := by have := e4.1; simp at this; omega
  refine ⟨e2, ?_, e5⟩
  unfold b_nm
  rw [e1, e3, show p + [32].length + [c].length - (p + [32].length) = 1 from Nat.add_sub_cancel_left _ _, if_pos (by decide)]
  show (if q_let (q_at f il (p + 1)) then (0 : Int32) <<< (8 &&& 31) ||| q_at f il (p + 1) else 0) = nI c
  have ea : q_at f il (p + 1) = nI c := by rw [q_at, if_pos hlt, h0]
  have hc9 := hc.2
  rw [ea, if_pos ((let_iff (by omega)).mpr hc)]
  have h9 := shl_or (A := 0) (c := c) (by omega) (by omega)
  rw [Nat.zero_mul, Nat.zero_add] at h9
  exact h9
theorem word_is {p i : Nat} {T R : List Nat} (h : Sf f il p (T ++ (32 :: R))) (hT0 : T ≠ []) (hT : ∀ c ∈ T, isL c) (hn : SKn.getD i 0 = T.length) (hs : ∀ j, j < T.length → sk_ch i j = nI (T.getD j 0)) : tIs f il p i ∧ Sf f il (tE f il p) (32 :: R) := by
  obtain ⟨e1, e2, e3, e4, e5⟩ := tokW (B := []) (T := T) (Or.inl rfl) h hT0 hT h32
  refine ⟨⟨e2, ?_, fun j hj => ?_⟩, e5⟩
  · unfold tL
    rw [if_pos e2, e3, e1, Nat.add_sub_cancel_left, hn]
  · rw [hn] at hj
    rw [hs j hj, e1]
    exact e4.at hj
theorem word_not {p i : Nat} {T R : List Nat} (h : Sf f il p (T ++ (32 :: R))) (hT0 : T ≠ []) (hT : ∀ c ∈ T, isL c) (hn : SKn.getD i 0 ≠ T.length) : ¬ tIs f il p i := by
  obtain ⟨e1, e2, e3, e4, e5⟩ := tokW (B := []) (T := T) (Or.inl rfl) h hT0 hT h32
  intro h9
  have h8 := h9.2.1
  unfold tL at h8
  rw [if_pos e2, e3, e1, Nat.add_sub_cancel_left] at h8
  exact hn h8.symm
theorem num_none {g : Nat → Int32} {x : Int32} : ∀ n i, (∀ j, i ≤ j → j < i + n → ¬ g j = x) → fnd (fun i => decide (g i = x)) i n = -1
  | 0, _, _ => rfl
  | n + 1, i, h => by
    have e := fnd_step (p := fun i => decide (g i = x)) (i := i) (n := i + (n + 1)) (by omega) (decide_eq_false (h i (Nat.le_refl _) (by omega)))
    rw [show i + (n + 1) - i = n + 1 by omega, show i + (n + 1) - (i + 1) = n by omega] at e
    rw [e]
    exact num_none n (i + 1) (fun j h1 h2 => h j (by omega) (by omega))
theorem num_at {g : Nat → Int32} {x : Int32} {k : Nat} (hk : g k = x) : ∀ n i, i ≤ k → k < i + n → (∀ j, i ≤ j → j < k → ¬ g j = x) → fnd (fun i => decide (g i = x)) i n = nI k
  | 0, _, h1, h2, _ => absurd h2 (by omega)
  | n + 1, i, h1, h2, h => by
    by_cases hik : i = k
    · subst hik
      have e := fnd_hit (p := fun i => decide (g i = x)) (i := i) (n := i + (n + 1)) (by omega) (decide_eq_true hk)
      rw [show i + (n + 1) - i = n + 1 by omega] at e
      exact e
    · have e := fnd_step (p := fun i => decide (g i = x)) (i := i) (n := i + (n + 1)) (by omega) (decide_eq_false (h i (Nat.le_refl _) (by omega)))
      rw [show i + (n + 1) - i = n + 1 by omega, show i + (n + 1) - (i + 1) = n by omega] at e
      rw [e]
      exact num_at hk n (i + 1) (by omega) (by omega) (fun j h3 h4 => h j (by omega) h4)
def wVil : List Nat := [118, 105, 108, 108, 97, 103, 101]
def wFair : List Nat := [102, 97, 105, 114]
def wAlm : List Nat := [97, 108, 109, 97, 110, 97, 99]
theorem isL_of {T : List Nat} (h : T.all (fun c => decide (97 ≤ c) && decide (c ≤ 122)) = true) : ∀ c ∈ T, isL c := fun c hc => by
  have h9 := List.all_eq_true.mp h c hc
  simp only [Bool.and_eq_true, decide_eq_true_eq] at h9
  exact h9
/-- a village's statement -/
theorem st_vil {S : CT} {e c pe tr : Nat} {z : Int32} {R : List Nat} (h : Sf f il e (wVil ++ (32 :: ([c] ++ (32 :: (numL pe ++ (32 :: (numL tr ++ (59 :: R))))))))) (hc : isL c) (hpe : 1 ≤ pe ∧ pe ≤ 99) (htr : tr ≤ 100) (h9 : S 16 9 < 6) (hfree : c_free S (nI c)) : ∃ e', p_nxt f il (c_st f il (S, e, 0, z)) = (s_vadd S (nI c) (nI pe) (nI tr) (vcO S), e', 0, z) ∧ Sf f il e' R ∧ ¬ tK f il e = 0 := by
  obtain ⟨w2, s1⟩ := word_is (i := 2) h (by decide) (isL_of (by decide)) rfl (by decide +kernel)
  obtain ⟨k1, n1, s2⟩ := nm_1 s1 hc
  obtain ⟨k2, v2, s3⟩ := tokN (B := [32]) (Or.inr rfl) (by omega) (show Sf f il (tE f il (tE f il e)) ([32] ++ (numL pe ++ (32 :: (numL tr ++ (59 :: R))))) from s2) d32
  obtain ⟨k3, v3, s4⟩ := tokN (B := [32]) (Or.inr rfl) (by omega) (show Sf f il (tE f il (tE f il (tE f il e))) ([32] ++ (numL tr ++ (59 :: R))) from s3) d59
  obtain ⟨k4, s5⟩ := tokS s4
  have hcne : ¬ nI c = 0 := nI_ne0 (by have := hc.1; omega) (by have := hc.2; omega)
  have a1 : c_v1 f il (S, e, 0, z) = (S, e, 0, z) := chk_ok (t := (S, e, (0 : Int32), z)) rfl h9
  have a2 : c_v2 f il (S, e, 0, z) = (S, tE f il e, 0, z) := by
    unfold c_v2
    rw [a1]
    unfold c_nn
    have b1 : c_nn2 f il (S, e, 0, z) = (S, tE f il e, 0, z) := by
      unfold c_nn2
      rw [wd_ok k1]
      refine chk_ok (t := (S, tE f il e, (0 : Int32), z)) rfl ?_
      show ¬ b_nm f il (tS f il (tE f il e)) (tE f il (tE f il e)) = 0
      rw [n1]
      exact hcne
    rw [b1]
    refine chk_ok (t := (S, tE f il e, (0 : Int32), z)) rfl ?_
    show c_free S (b_nm f il (tS f il (tE f il e)) (tE f il (tE f il e)))
    rw [n1]
    exact hfree
  have a3 : c_v3 f il (S, e, 0, z) = (S, tE f il (tE f il e), 0, z) := by
    unfold c_v3
    rw [a2]
    exact num_ok k2 v2 (nI_nlt (b := 1) hpe.1 (by omega)) (nI_nlt (a := 99) hpe.2 (by decide))
  have a4 : c_v4 f il (S, e, 0, z) = (S, tE f il (tE f il (tE f il e)), 0, z) := by
    unfold c_v4
    rw [a3]
    exact num_ok k3 v3 (nI_pos (by omega)) (nI_nlt (a := 100) htr (by decide))
  have a5 : c_v5 f il (S, e, 0, z) = (S, tE f il (tE f il (tE f il (tE f il e))), 0, z) := by
    unfold c_v5
    rw [a4]
    exact sem_ok k4
  refine ⟨tE f il (tE f il (tE f il (tE f il (tE f il e)))), ?_, s5, fun h8 => absurd (w2.1.symm.trans h8) (by decide)⟩
  have a6 : c_st f il (S, e, 0, z) = (s_vadd S (nI c) (nI pe) (nI tr) (vcO S), tE f il (tE f il (tE f il (tE f il e))), 0, z) := by
    unfold c_st
    rw [if_pos w2]
    unfold c_rv
    rw [a5, if_pos rfl, a2, a3, a4]
    show (s_vadd S (b_nm f il (tS f il (tE f il e)) (tE f il (tE f il e))) (tW f il (tE f il (tE f il e))) (tW f il (tE f il (tE f il (tE f il e)))) (vcO S), _) = _
    rw [n1, v2, v3]
  rw [a6]
  exact nxt_ok _ _ _
/-- a fair's statement -/
theorem st_fair {S : CT} {e c d pl pe so pr : Nat} {z : Int32} {R : List Nat} (h : Sf f il e (wFair ++ (32 :: ([c] ++ (32 :: ([d] ++ (32 :: (numL pe ++ (32 :: (numL so ++ (32 :: (numL pr ++ (59 :: R))))))))))))) (hc : isL c) (hd : isL d) (hpe : 1 ≤ pe ∧ pe ≤ 12) (hso : 1 ≤ so ∧ so ≤ 99) (hpr : 1 ≤ pr ∧ pr ≤ 20) (h10 : S 16 10 < 6) (hfree : c_free S (nI c)) (hpl : s_num (S 0) (nI d) (vcO S) = nI pl) (hpl9 : pl < 100) : ∃ e', p_nxt f il (c_st f il (S, e, 0, z)) = (s_fadd S (nI c) (nI pl) (nI pe) (nI so) (nI pr) (fcO S), e', 0, z) ∧ Sf f il e' R ∧ ¬ tK f il e = 0 := by
  have w2 : ¬ tIs f il e 2 := word_not h (by decide) (isL_of (by decide)) (by decide)
  obtain ⟨w3, s1⟩ := word_is (i := 3) h (by decide) (isL_of (by decide)) rfl (by decide +kernel)
  obtain ⟨k1, n1, s2⟩ := nm_1 s1 hc
  obtain ⟨k9, n9, s9⟩ := nm_1 s2 hd
  obtain ⟨k2, v2, s3⟩ := tokN (B := [32]) (Or.inr rfl) (by omega) (show Sf f il (tE f il (tE f il (tE f il e))) ([32] ++ (numL pe ++ (32 :: (numL so ++ (32 :: (numL pr ++ (59 :: R))))))) from s9) d32
  obtain ⟨k3, v3, s4⟩ := tokN (B := [32]) (Or.inr rfl) (by omega) (show Sf f il (tE f il (tE f il (tE f il (tE f il e)))) ([32] ++ (numL so ++ (32 :: (numL pr ++ (59 :: R))))) from s3) d32
  obtain ⟨k5, v5, s6⟩ := tokN (B := [32]) (Or.inr rfl) (by omega) (show Sf f il (tE f il (tE f il (tE f il (tE f il (tE f il e))))) ([32] ++ (numL pr ++ (59 :: R))) from s4) d59
  obtain ⟨k4, s5⟩ := tokS s6
  have hcne : ¬ nI c = 0 := nI_ne0 (by have := hc.1; omega) (by have := hc.2; omega)
  have a1 : c_f1 f il (S, e, 0, z) = (S, e, 0, z) := chk_ok (t := (S, e, (0 : Int32), z)) rfl h10
  have a2 : c_f2 f il (S, e, 0, z) = (S, tE f il e, 0, z) := by
    unfold c_f2
    rw [a1]
    unfold c_nn
    have b1 : c_nn2 f il (S, e, 0, z) = (S, tE f il e, 0, z) := by
      unfold c_nn2
      rw [wd_ok k1]
      refine chk_ok (t := (S, tE f il e, (0 : Int32), z)) rfl ?_
      show ¬ b_nm f il (tS f il (tE f il e)) (tE f il (tE f il e)) = 0
      rw [n1]
      exact hcne
    rw [b1]
    refine chk_ok (t := (S, tE f il e, (0 : Int32), z)) rfl ?_
    show c_free S (b_nm f il (tS f il (tE f il e)) (tE f il (tE f il e)))
    rw [n1]
    exact hfree
  have ev : c_kvV f il (S, tE f il (tE f il e), 0, z) = nI pl := by
    show s_num (S 0) (b_nm f il (tS f il (tE f il (tE f il e))) (tE f il (tE f il (tE f il e)))) (vcO S) = _
    rw [n9]
    exact hpl
  have a3 : c_f3 f il (S, e, 0, z) = (S, tE f il (tE f il e), 0, z) := by
    unfold c_f3
    rw [a2]
    unfold c_kv
    rw [wd_ok k9]
    refine chk_ok (t := (S, tE f il (tE f il e), (0 : Int32), z)) rfl ?_
    rw [ev]
    exact nI_ne_m1 (by omega)
  have a4 : c_f4 f il (S, e, 0, z) = (S, tE f il (tE f il (tE f il e)), 0, z) := by
    unfold c_f4
    rw [a3]
    exact num_ok k2 v2 (nI_nlt (b := 1) hpe.1 (by omega)) (nI_nlt (a := 12) hpe.2 (by decide))
  have a5 : c_f5 f il (S, e, 0, z) = (S, tE f il (tE f il (tE f il (tE f il e))), 0, z) := by
    unfold c_f5
    rw [a4]
    exact num_ok k3 v3 (nI_nlt (b := 1) hso.1 (by omega)) (nI_nlt (a := 99) hso.2 (by decide))
  have a6 : c_f6 f il (S, e, 0, z) = (S, tE f il (tE f il (tE f il (tE f il (tE f il e)))), 0, z) := by
    unfold c_f6
    rw [a5]
    exact num_ok k5 v5 (nI_nlt (b := 1) hpr.1 (by omega)) (nI_nlt (a := 20) hpr.2 (by decide))
  have a7 : c_f7 f il (S, e, 0, z) = (S, tE f il (tE f il (tE f il (tE f il (tE f il (tE f il e))))), 0, z) := by
    unfold c_f7
    rw [a6]
    exact sem_ok k4
  refine ⟨tE f il (tE f il (tE f il (tE f il (tE f il (tE f il (tE f il e)))))), ?_, s5, fun h8 => absurd (w3.1.symm.trans h8) (by decide)⟩
  have a8 : c_st f il (S, e, 0, z) = (s_fadd S (nI c) (nI pl) (nI pe) (nI so) (nI pr) (fcO S), tE f il (tE f il (tE f il (tE f il (tE f il (tE f il e))))), 0, z) := by
    unfold c_st
    rw [if_neg w2, if_pos w3]
    unfold c_rf
    rw [a7, if_pos rfl, a2, a3, a4, a5, a6, ev]
    show (s_fadd S (b_nm f il (tS f il (tE f il e)) (tE f il (tE f il e))) (nI pl) (tW f il (tE f il (tE f il (tE f il e)))) (tW f il (tE f il (tE f il (tE f il (tE f il e))))) (tW f il (tE f il (tE f il (tE f il (tE f il (tE f il e)))))) (fcO S), _) = _
    rw [n1, v2, v3, v5]
  rw [a8]
  exact nxt_ok _ _ _
/-- the head -/
theorem st_head {S : CT} {sd o0 o1 o2 : Nat} {R : List Nat} (h : Sf f il 0 (wAlm ++ (32 :: (numL sd ++ (32 :: (numL o0 ++ (32 :: (numL o1 ++ (32 :: (numL o2 ++ (59 :: R))))))))))) (hsd : sd ≤ 1023) (h0 : o0 ≤ 20) (h1 : o1 ≤ 20) (h2 : o2 ≤ 20) (hs : 0 < o0 + o1 + o2) : ∃ e', p_nxt f il (c_al f il S) = (us (us (us (us S 16 11 (nI sd)) 8 0 (nI o0)) 8 1 (nI o1)) 8 2 (nI o2), e', 0, -1) ∧ Sf f il e' R := by
  obtain ⟨w1, s1⟩ := word_is (i := 1) h (by decide) (isL_of (by decide)) rfl (by decide +kernel)
  obtain ⟨k1, v1, s2⟩ := tokN (B := [32]) (Or.inr rfl) (by omega) (show Sf f il (tE f il 0) ([32] ++ (numL sd ++ (32 :: (numL o0 ++ (32 :: (numL o1 ++ (32 :: (numL o2 ++ (59 :: R))))))))) from s1) d32
  obtain ⟨k2, v2, s3⟩ := tokN (B := [32]) (Or.inr rfl) (by omega) (show Sf f il (tE f il (tE f il 0)) ([32] ++ (numL o0 ++ (32 :: (numL o1 ++ (32 :: (numL o2 ++ (59 :: R))))))) from s2) d32
  obtain ⟨k3, v3, s4⟩ := tokN (B := [32]) (Or.inr rfl) (by omega) (show Sf f il (tE f il (tE f il (tE f il 0))) ([32] ++ (numL o1 ++ (32 :: (numL o2 ++ (59 :: R))))) from s3) d32
  obtain ⟨k4, v4, s5⟩ := tokN (B := [32]) (Or.inr rfl) (by omega) (show Sf f il (tE f il (tE f il (tE f il (tE f il 0)))) ([32] ++ (numL o2 ++ (59 :: R))) from s4) d59
  obtain ⟨k5, s6⟩ := tokS s5
  have a0 : c_a0 f il S = (S, 0, 0, -1) := chk_ok (t := (S, 0, (0 : Int32), (-1 : Int32))) rfl w1
  have a1 : c_a1 f il S = (us S 16 11 (nI sd), tE f il 0, 0, -1) := by
    unfold c_a1
    rw [a0, num_ok (lo := 0) (hi := 1023) k1 v1 (nI_pos (by omega)) (nI_nlt (a := 1023) hsd (by decide))]
    show (us S 16 11 (tW f il (tE f il 0)), _) = _
    rw [v1]
  have a2 : c_a2 f il S = (us (us S 16 11 (nI sd)) 8 0 (nI o0), tE f il (tE f il 0), 0, -1) := by
    unfold c_a2
    rw [a1, num_ok (lo := 0) (hi := 20) k2 v2 (nI_pos (by omega)) (nI_nlt (a := 20) h0 (by decide))]
    show (us _ 8 0 (tW f il (tE f il (tE f il 0))), _) = _
    rw [v2]
  have a3 : c_a3 f il S = (us (us (us S 16 11 (nI sd)) 8 0 (nI o0)) 8 1 (nI o1), tE f il (tE f il (tE f il 0)), 0, -1) := by
    unfold c_a3
    rw [a2, num_ok (lo := 0) (hi := 20) k3 v3 (nI_pos (by omega)) (nI_nlt (a := 20) h1 (by decide))]
    show (us _ 8 1 (tW f il (tE f il (tE f il (tE f il 0)))), _) = _
    rw [v3]
  have a4 : c_a4 f il S = (us (us (us (us S 16 11 (nI sd)) 8 0 (nI o0)) 8 1 (nI o1)) 8 2 (nI o2), tE f il (tE f il (tE f il (tE f il 0))), 0, -1) := by
    unfold c_a4
    rw [a3, num_ok (lo := 0) (hi := 20) k4 v4 (nI_pos (by omega)) (nI_nlt (a := 20) h2 (by decide))]
    show (us _ 8 2 (tW f il (tE f il (tE f il (tE f il (tE f il 0))))), _) = _
    rw [v4]
  have a5 : c_a5 f il S = c_a4 f il S := by
    unfold c_a5
    rw [a4]
    refine chk_ok (t := (_, _, (0 : Int32), (-1 : Int32))) rfl ?_
    show ¬ nI o0 + nI o1 + nI o2 = 0
    rw [nI_add, nI_add]
    exact nI_ne0 hs (by omega)
  refine ⟨tE f il (tE f il (tE f il (tE f il (tE f il (tE f il 0))))), ?_, s6⟩
  have a6 : c_al f il S = (us (us (us (us S 16 11 (nI sd)) 8 0 (nI o0)) 8 1 (nI o1)) 8 2 (nI o2), tE f il (tE f il (tE f il (tE f il (tE f il 0)))), 0, -1) := by
    unfold c_al
    rw [a5, a4]
    exact sem_ok k5
  rw [a6]
  exact nxt_ok _ _ _
end STM
theorem text_eq (G : gT) : textL G = (wAlm ++ (32 :: (numL (scN G 0 % 1024) ++ (32 :: (numL (oddsN G 0) ++ (32 :: (numL (oddsN G 1) ++ (32 :: (numL (oddsN G 2) ++ (59 :: (wVil ++ (32 :: ([97 + 0] ++ (32 :: (numL (peopleN G 0) ++ (32 :: (numL (trustN G 0) ++ (59 :: (wVil ++ (32 :: ([97 + 1] ++ (32 :: (numL (peopleN G 1) ++ (32 :: (numL (trustN G 1) ++ (59 :: (wVil ++ (32 :: ([97 + 2] ++ (32 :: (numL (peopleN G 2) ++ (32 :: (numL (trustN G 2) ++ (59 :: (wFair ++ (32 :: ([112 + 0] ++ (32 :: ([97 + placeN G 0] ++ (32 :: (numL (periodN G 0) ++ (32 :: (numL (stockN G 0) ++ (32 :: (numL (priceN G 0) ++ (59 :: (wFair ++ (32 :: ([112 + 1] ++ (32 :: ([97 + placeN G 1] ++ (32 :: (numL (periodN G 1) ++ (32 :: (numL (stockN G 1) ++ (32 :: (numL (priceN G 1) ++ (59 :: [])))))))))))))))))))))))))))))))))))))))))))))))))))))))))) := by
  have e10 : kL 10 = [97, 108, 109, 97, 110, 97, 99, 32] := rfl
  have e11 : kL (10 + 1) = [118, 105, 108, 108, 97, 103, 101, 32] := rfl
  have e12 : kL (10 + 2) = [102, 97, 105, 114, 32] := rfl
  simp only [textL, fairL, vilL, headL, e10, e11, e12, wAlm, wVil, wFair, List.append_assoc, List.cons_append, List.nil_append]
theorem lp_go {f : RT} {il n : Nat} {S S2 : CT} {e e2 : Nat} {z : Int32} (hk : ¬ tK f il e = 0) (h : p_nxt f il (c_st f il (S, e, 0, z)) = (S2, e2, 0, z)) : c_lp f il (n + 1) (S, e, 0, z) = c_lp f il n (S2, e2, 0, z) := by
  show (if (0 : Int32) = 0 ∧ ¬ tK f il e = 0 then c_lp f il n (p_nxt f il (c_st f il (S, e, 0, z))) else (S, e, 0, z)) = _
  rw [if_pos ⟨rfl, hk⟩, h]
theorem lp_end {f : RT} {il n : Nat} {S : CT} {e : Nat} {z : Int32} (hk : tK f il e = 0) : c_lp f il (n + 1) (S, e, 0, z) = (S, e, 0, z) := if_neg (fun h => h.2 hk)
theorem ne_l {a b : Nat} (ha : a < 1000) (hb : b < 1000) (h : a ≠ b) : ¬ nI a = nI b := fun h9 => h (nI_ij (by omega) (by omega) h9)
/-- the contents after the text -/
def pA (G : gT) : CT := us (us (us (us (s_clear Z0) 16 11 (nI (scN G 0 % 1024))) 8 0 (nI (oddsN G 0))) 8 1 (nI (oddsN G 1))) 8 2 (nI (oddsN G 2))
def pV (G : gT) : Nat → CT
  | 0 => pA G
  | k + 1 => s_vadd (pV G k) (nI (97 + k)) (nI (peopleN G k)) (nI (trustN G k)) k
def pF (G : gT) : Nat → CT
  | 0 => pV G 3
  | k + 1 => s_fadd (pF G k) (nI (112 + k)) (nI (placeN G k)) (nI (periodN G k)) (nI (stockN G k)) (nI (priceN G k)) k
theorem pV_names (G : gT) : ∀ k j, j < k → pV G k 0 j = nI (97 + j)
  | 0, j, h => absurd h (Nat.not_lt_zero _)
  | k + 1, j, hj => by
    show upd (pV G k 0) k (nI (97 + k)) j = _
    by_cases hjk : j = k
    · subst hjk; exact if_pos rfl
    · exact (if_neg hjk : upd (pV G k 0) k (nI (97 + k)) j = pV G k 0 j).trans (pV_names G k j (by omega))
theorem pF_0 (G : gT) : ∀ k, pF G k 0 = pV G 3 0
  | 0 => rfl
  | k + 1 => pF_0 G k
theorem pF_names (G : gT) : ∀ k j, j < k → pF G k 3 j = nI (112 + j)
  | 0, j, h => absurd h (Nat.not_lt_zero _)
  | k + 1, j, hj => by
    show upd (pF G k 3) k (nI (112 + k)) j = _
    by_cases hjk : j = k
    · subst hjk; exact if_pos rfl
    · exact (if_neg hjk : upd (pF G k 3) k (nI (112 + k)) j = pF G k 3 j).trans (pF_names G k j (by omega))
theorem free_V (G : gT) {k : Nat} (hk : k < 3) (hv : vcO (pV G k) = k) (hf : fcO (pV G k) = 0) : c_free (pV G k) (nI (97 + k)) := by
  refine ⟨?_, ?_⟩
  · rw [hv]
    exact num_none k 0 (fun j h1 h2 => by rw [pV_names G k j (by omega)]; exact ne_l (by omega) (by omega) (by omega))
  · rw [hf]
    rfl
theorem free_F (G : gT) {k : Nat} (hk : k < 2) (hv : vcO (pF G k) = 3) (hf : fcO (pF G k) = k) : c_free (pF G k) (nI (112 + k)) := by
  refine ⟨?_, ?_⟩
  · rw [hv, pF_0]
    exact num_none 3 0 (fun j h1 h2 => by rw [pV_names G 3 j (by omega)]; exact ne_l (by omega) (by omega) (by omega))
  · rw [hf]
    exact num_none k 0 (fun j h1 h2 => by rw [pF_names G k j (by omega)]; exact ne_l (by omega) (by omega) (by omega))
theorem vil_F (G : gT) {k d : Nat} (hd : d < 3) (hv : vcO (pF G k) = 3) : s_num (pF G k 0) (nI (97 + d)) (vcO (pF G k)) = nI d := by
  rw [hv, pF_0]
  exact num_at (pV_names G 3 d hd) 3 0 (by omega) (by omega) (fun j h1 h2 => by rw [pV_names G 3 j (by omega)]; exact ne_l (by omega) (by omega) (by omega))
theorem isl97 {k : Nat} (h : k < 3) : isL (97 + k) := ⟨by omega, by omega⟩
theorem isl112 {k : Nat} (h : k < 2) : isL (112 + k) := ⟨by omega, by omega⟩
theorem parse_tx {G : gT} {f : RT} {il : Nat} (h : Sf f il 0 (textL G)) : ∃ e, c_txt f il (s_clear Z0) = (pF G 2, e, 0, -1) := by
  rw [text_eq] at h
  have o2 : 1 ≤ oddsN G 2 := by show 1 ≤ 1 + scN G 1 % 20; omega
  have hpl : ∀ k, placeN G k < 3 := fun k => by have := placeN_le G k; omega
  have hpp : ∀ k, 1 ≤ peopleN G k ∧ peopleN G k ≤ 99 := fun k => ⟨by unfold peopleN; omega, peopleN_le G k⟩
  have hpe : ∀ k, 1 ≤ periodN G k ∧ periodN G k ≤ 12 := fun k => ⟨by unfold periodN; omega, periodN_le G k⟩
  have hso : ∀ k, 1 ≤ stockN G k ∧ stockN G k ≤ 99 := fun k => ⟨by unfold stockN; omega, by have := stockN_le G k; omega⟩
  have hpr : ∀ k, 1 ≤ priceN G k ∧ priceN G k ≤ 20 := fun k => ⟨by unfold priceN; omega, priceN_le G k⟩
  have v0 : vcO (pV G 0) = 0 := rfl
  have v1 : vcO (pV G 1) = 1 := rfl
  have v2 : vcO (pV G 2) = 2 := rfl
  have w0 : vcO (pF G 0) = 3 := rfl
  have w1 : vcO (pF G 1) = 3 := rfl
  have f0 : fcO (pF G 0) = 0 := rfl
  have f1 : fcO (pF G 1) = 1 := rfl
  obtain ⟨e1, a1, s1⟩ := st_head (S := s_clear Z0) h (by omega) (oddsN_le G 0) (oddsN_le G 1) (oddsN_le G 2) (by omega)
  obtain ⟨e2, a2, s2, k2⟩ := st_vil (S := pV G 0) (z := -1) s1 (isl97 (by decide)) (hpp 0) (trustN_le G 0) (by show (0 : Int32) < 6; decide) (free_V G (by decide) v0 rfl)
  obtain ⟨e3, a3, s3, k3⟩ := st_vil (S := pV G 1) (z := -1) s2 (isl97 (by decide)) (hpp 1) (trustN_le G 1) (by show nI 1 < 6; decide) (free_V G (by decide) v1 rfl)
  obtain ⟨e4, a4, s4, k4⟩ := st_vil (S := pV G 2) (z := -1) s3 (isl97 (by decide)) (hpp 2) (trustN_le G 2) (by show nI 2 < 6; decide) (free_V G (by decide) v2 rfl)
  obtain ⟨e5, a5, s5, k5⟩ := st_fair (S := pF G 0) (z := -1) s4 (isl112 (by decide)) (isl97 (hpl 0)) (hpe 0) (hso 0) (hpr 0) (by show (0 : Int32) < 6; decide) (free_F G (by decide) w0 f0) (vil_F G (hpl 0) w0) (by have := hpl 0; omega)
  obtain ⟨e6, a6, s6, k6⟩ := st_fair (S := pF G 1) (z := -1) s5 (isl112 (by decide)) (isl97 (hpl 1)) (hpe 1) (hso 1) (hpr 1) (by show nI 1 < 6; decide) (free_F G (by decide) w1 f1) (vil_F G (hpl 1) w1) (by have := hpl 1; omega)
  rw [v0] at a2
  rw [v1] at a3
  rw [v2] at a4
  rw [f0] at a5
  rw [f1] at a6
  refine ⟨e6, ?_⟩
  unfold c_txt
  rw [a1]
  show c_lp f il (594 + 1 + 1 + 1 + 1 + 1 + 1) (pV G 0, e1, 0, -1) = _
  rw [lp_go k2 a2]
  show c_lp f il (594 + 1 + 1 + 1 + 1 + 1) (pV G 1, e2, 0, -1) = _
  rw [lp_go k3 a3]
  show c_lp f il (594 + 1 + 1 + 1 + 1) (pV G 2, e3, 0, -1) = _
  rw [lp_go k4 a4]
  show c_lp f il (594 + 1 + 1 + 1) (pF G 0, e4, 0, -1) = _
  rw [lp_go k5 a5]
  show c_lp f il (594 + 1 + 1) (pF G 1, e5, 0, -1) = _
  rw [lp_go k6 a6]
  exact lp_end (tok0 s6)
theorem c3 {P : Nat → Prop} (h0 : P 0) (h1 : P 1) (h2 : P 2) : ∀ k, k < 3 → P k := fun k hk => by
  have h : k = 0 ∨ k = 1 ∨ k = 2 := by omega
  rcases h with rfl | rfl | rfl
  · exact h0
  · exact h1
  · exact h2
theorem c2 {P : Nat → Prop} (h0 : P 0) (h1 : P 1) : ∀ k, k < 2 → P k := fun k hk => by
  have h : k = 0 ∨ k = 1 := by omega
  rcases h with rfl | rfl
  · exact h0
  · exact h1
theorem pF_he (G : gT) : HE 0 0 (hSi G) (pF G 2) := ⟨c3 ⟨rfl, rfl, rfl, rfl⟩ ⟨rfl, rfl, rfl, rfl⟩ ⟨rfl, rfl, rfl, rfl⟩, c2 ⟨rfl, rfl, rfl, rfl⟩ ⟨rfl, rfl, rfl, rfl⟩, fun j hj => absurd hj (Nat.not_lt_zero _), fun j hj => absurd hj (Nat.not_lt_zero _), rfl, rfl, rfl, rfl, rfl, rfl⟩
theorem pF_lq (G : gT) : LQ 0 (pF G 2) := by
  have o2 : 1 ≤ oddsN G 2 := by show 1 ≤ 1 + scN G 1 % 20; omega
  have l0 := oddsN_le G 0
  have l1 := oddsN_le G 1
  have l2 := oddsN_le G 2
  have eb : bcO (pF G 2) = 0 := rfl
  have em : mcO (pF G 2) = 0 := rfl
  have hpp : ∀ k, 1 ≤ peopleN G k := fun k => by unfold peopleN; omega
  have hpe : ∀ k, 1 ≤ periodN G k := fun k => by unfold periodN; omega
  have hpl : ∀ k, placeN G k < 3 := fun k => by have := placeN_le G k; omega
  refine ⟨?_, ⟨0, rfl, by omega⟩, ?_⟩
  · rw [eb, em]
    refine ⟨⟨rfl, by decide⟩, ⟨rfl, by decide⟩, ⟨rfl, rfl⟩, fun k hk => absurd hk (Nat.not_lt_zero _), c3 ⟨_, _, _, hpp 0, peopleN_le G 0, trustN_le G 0, oddsN_le G 0, rfl, rfl, rfl⟩ ⟨_, _, _, hpp 1, peopleN_le G 1, trustN_le G 1, oddsN_le G 1, rfl, rfl, rfl⟩ ⟨_, _, _, hpp 2, peopleN_le G 2, trustN_le G 2, oddsN_le G 2, rfl, rfl, rfl⟩, ?_, c2 ⟨_, _, _, hpl 0, hpe 0, periodN_le G 0, stockN_le G 0, rfl, rfl, rfl⟩ ⟨_, _, _, hpl 1, hpe 1, periodN_le G 1, stockN_le G 1, rfl, rfl, rfl⟩, ⟨scN G 0 % 1024, Nat.mod_lt _ (by decide), rfl⟩, ⟨0, by decide, rfl⟩⟩
    show ¬ nI (oddsN G 0) + nI (oddsN G 1) + nI (oddsN G 2) = 0
    rw [nI_add, nI_add]
    exact nI_ne0 (by omega) (by omega)
  · unfold CO
    rw [eb]
    refine ⟨?_, ?_, fun k hk => absurd hk (Nat.not_lt_zero _)⟩
    · show (0 : Int32) - 0 - 0 = 0
      decide
    · show (0 : Int32) - 0 - 0 = 0
      decide
theorem parse_ok {G : gT} {q : RT × Nat} (h1 : q.2 = (textL G).length) (h2 : ∀ j, j < q.2 → q.1 j &&& 255 = nI ((textL G).getD j 0)) : (ztx (zIn z0 q)).2.2.1 = 0 ∧ HE 0 0 (hSi G) (ztx (zIn z0 q)).1 ∧ LQ 0 (ztx (zIn z0 q)).1 ∧ (ztx (zIn z0 q)).1 16 11 = nI (scN G 0 % 1024) ∧ (ztx (zIn z0 q)).1 16 12 = 0 ∧ (ztx (zIn z0 q)).1 16 13 = 0 := by
  have hS : Sf (zfi (zIn z0 q)) q.2 0 (textL G) := ⟨by rw [h1, Nat.zero_add], fun j hj => by rw [Nat.zero_add]; exact h2 j (by omega)⟩
  obtain ⟨e, he⟩ := parse_tx hS
  have ht : ztx (zIn z0 q) = (pF G 2, e, 0, -1) := he
  rw [ht]
  exact ⟨rfl, pF_he G, pF_lq G, rfl, rfl, rfl⟩
set_option maxHeartbeats 1000000 in
set_option maxRecDepth 100000 in
theorem law_loop {x : JX} {G : gT} {w0 : Cond} (hC : JC x G RM1 cL_law w0 RL 6) (hst : (jl x).stackTraces = false) (hxT : xT (js x)) (hxN : xN (js x)) (hb : G.2.2.1 15 < 2 ^ 31) (hend : ∀ ws k n lv, k ≤ 600086 → n ≤ 7301442 → J x G ws k n lv [] 138) (u : Nat → Nat → Nat) : ∀ (f c : Nat) (z : OS) (h r : Nat → Nat) (k n : Nat), 38 - c < f → c ≤ 38 → LQ c (zS z) → zn z < 8 → zk z ≤ 8 → k ≤ 500 + 453 * c → n ≤ 26000 + 4818 * c → J x G (hdW G h r (bcO (zS z)) (mcO (zS z)) (zS z) ++ ofW G u z) k n [(3, .int (nI (7 + c))), (2, .ref (h 0)), (1, .ref (u 4 0)), (0, .ref (G.2.2.1 14))] [] 69 := by
  intro f
  induction f with
  | zero => exact fun _ _ _ _ _ _ h => absurd h (Nat.not_lt_zero _)
  | succ f ih =>
    intro c z h r k n hf hcc hLS hzn hzk hk hn
    refine J_iload_n hC dL_law_69 0 rfl rfl ?_
    refine J_bipush (v := nI 45) hC dL_law_70 rfl ?_
    refine J_ic_geN (a := 7 + c) (b := 45) (tgt := 138) hC dL_law_72 (by decide) (by omega) (by decide) (fun c1 => hend _ k n _ (by omega) (by omega)) (fun c1 => ?_)
    obtain ⟨hS, ⟨dy, hdy, hdl⟩, hCO⟩ := hLS
    have hLS : LQ c (zS z) := ⟨hS, ⟨dy, hdy, hdl⟩, hCO⟩
    refine J_aload_n hC dL_law_75 3 rfl rfl ?_
    refine J_iload_n hC dL_law_76 0 rfl rfl ?_
    refine J_callSi hC dL_law_77 wl_L_33 wi_L yi_L_cell (c_L_cell _ G (hdW G h r (bcO (zS z)) (mcO (zS z)) (zS z) ++ ofW G u z) hb (7 + c) (by omega)) rfl rfl ⟨Nat.le_of_ble_eq_true rfl, Nat.le_of_ble_eq_true rfl⟩ (Nat.le_of_ble_eq_true rfl) (show k + 0 ≤ 600086 by omega) (show n + 0 ≤ 7301442 by omega) (fun r9 u9 h9 => ?_)
    subst h9
    have hx := scN_lt G (7 + c)
    obtain ⟨xx, hxx⟩ : ∃ z9, z9 = scN G (7 + c) := ⟨_, rfl⟩
    rw [← hxx] at hx ⊢
    refine J_istore hC [(4, .int (nI xx)), (3, .int (nI (7 + c))), (2, .ref (h 0)), (1, .ref (u 4 0)), (0, .ref (G.2.2.1 14))] dL_law_80 (by decide) rfl ?_
    refine J_aload_n hC dL_law_82 2 rfl rfl ?_
    refine J_iload hC dL_law_83 0 rfl ?_
    refine J_callVi hC dL_law_85 wl_L_141 yi_X11_acts (app_i (ofW G u z) (c_X11_acts _ G h r (bcO (zS z)) (mcO (zS z)) xx (xx / 32) (xx / 32 / 16) (xx % 32) (zS z) hx rfl rfl rfl hS ⟨dy, hdy, by omega⟩)) rfl rfl 0 11 rfl rfl ⟨Nat.le_of_ble_eq_true rfl, Nat.le_of_ble_eq_true rfl⟩ (Nat.le_of_ble_eq_true rfl) (show k + 0 + 150 ≤ 600086 by omega) (show n + 0 + 3000 ≤ 7301442 by omega) (fun r1 v1 h1 => ?_)
    obtain ⟨h1r, r1r, S1⟩ := v1
    obtain ⟨g0, g1, g2⟩ := h1
    dsimp only at g0 g1 g2 ⊢
    rw [← g0]
    refine J_istore hC [(5, .int r1), (4, .int (nI xx)), (3, .int (nI (7 + c))), (2, .ref (h1r 0)), (1, .ref (u 4 0)), (0, .ref (G.2.2.1 14))] dL_law_88 (by decide) rfl ?_
    refine J_aload_n hC dL_law_90 4 rfl rfl ?_
    refine J_iload hC dL_law_91 1 rfl ?_
    refine J_callW hC hxT hxN dL_law_93 wl_L_144 yw_acts (frw_i (wr := hdW G h1r r1r (bcO S1) (mcO S1) S1) (W1 := fun z9 => hdW G h1r r1r (bcO S1) (mcO S1) S1 ++ ofW G u z9) (w_acts _ G u z (bcO (zS z)) (mcO (zS z)) xx (xx / 32) (xx / 32 / 16) (xx % 32) hx rfl rfl rfl hS hS.ci hzn hzk hst) List.perm_append_comm (fun _ => List.perm_append_comm)) rfl rfl ⟨Nat.le_of_ble_eq_true rfl, Nat.le_of_ble_eq_true rfl⟩ (Nat.le_of_ble_eq_true rfl) (show k + 0 + 150 + 3 ≤ 600086 by omega) (show n + 0 + 3000 + 18 ≤ 7301442 by omega) (fun r2 z9 h2 => ?_)
    obtain ⟨k1, k2, hzn9, hzk9⟩ := h2
    have e1 : S1 = zS z9 := g2.trans k2.symm
    have hL9 : LQ (c + 1) (zS z9) := by rw [k2]; exact ls_acts (by omega) hLS _ _ _ (Nat.mod_lt _ (by decide))
    subst e1
    obtain ⟨hS9, hd9, hC1, hC2, hC3⟩ := hL9
    have hI := hS9.ci
    refine J_iload hC dL_law_96 0 rfl ?_
    refine J_ic_ne (tgt := 130) hC dL_law_98 (by decide) (fun c9 => absurd (k1.trans g1.symm) c9) (fun _ => ?_)
    refine J_aload_n hC dL_law_101 3 rfl rfl ?_
    refine J_aload_n hC dL_law_102 4 rfl rfl ?_
    refine J_callT0 hC hxT dL_law_103 wl_L_147 yi_X11_agrees (c_X11_agrees _ G h1r r1r (bcO (zS z9)) (mcO (zS z9)) u z9 hS9 hI hC3 hst) (fun _ h9 => h9) rfl rfl 0 11 rfl rfl ⟨Nat.le_of_ble_eq_true rfl, Nat.le_of_ble_eq_true rfl⟩ (Nat.le_of_ble_eq_true rfl) (show k + 0 + 150 + 3 + 300 ≤ 600086 by omega) (show n + 0 + 3000 + 18 + 1800 ≤ 7301442 by omega) (fun r3 w3 h3 => ?_)
    subst h3
    refine J_if_eq (tgt := 130) hC dL_law_106 (by decide) (fun c9 => absurd c9 (by decide)) (fun _ => ?_)
    refine J_aload_n hC dL_law_109 4 rfl rfl ?_
    refine J_callVi hC dL_law_110 wl_L_151 yi_X10_copyDifference (lo_i (hdW G h1r r1r (bcO (zS z9)) (mcO (zS z9)) (zS z9)) (c_X10_copyDifference _ G (u 4 0) (oR u) (u 0) (zS z9) (zc z9) (zp z9) hI)) rfl rfl (11 + bcO (zS z9)) 10 hd_of rfl ⟨Nat.le_of_ble_eq_true rfl, Nat.le_of_ble_eq_true rfl⟩ (Nat.le_of_ble_eq_true rfl) (show k + 0 + 150 + 3 + 300 + 0 ≤ 600086 by omega) (show n + 0 + 3000 + 18 + 1800 + 0 ≤ 7301442 by omega) (fun r9 u9 h9 => ?_)
    subst h9
    refine J_if_ne (tgt := 130) hC dL_law_113 (by decide) (fun c9 => absurd hC1 c9) (fun _ => ?_)
    refine J_aload_n hC dL_law_116 4 rfl rfl ?_
    refine J_callVi hC dL_law_117 wl_L_154 yi_X10_coinDifference (lo_i (hdW G h1r r1r (bcO (zS z9)) (mcO (zS z9)) (zS z9)) (c_X10_coinDifference _ G (u 4 0) (oR u) (u 0) (zS z9) (zc z9) (zp z9) hI)) rfl rfl (11 + bcO (zS z9)) 10 hd_of rfl ⟨Nat.le_of_ble_eq_true rfl, Nat.le_of_ble_eq_true rfl⟩ (Nat.le_of_ble_eq_true rfl) (show k + 0 + 150 + 3 + 300 + 0 + 0 ≤ 600086 by omega) (show n + 0 + 3000 + 18 + 1800 + 0 + 0 ≤ 7301442 by omega) (fun r9 u9 h9 => ?_)
    subst h9
    refine J_if_ne (tgt := 130) hC dL_law_120 (by decide) (fun c9 => absurd hC2 c9) (fun _ => ?_)
    refine J_aload_n hC dL_law_123 4 rfl rfl ?_
    refine J_callVi hC dL_law_124 wl_L_157 yi_X10_bookErrors (lo_i (hdW G h1r r1r (bcO (zS z9)) (mcO (zS z9)) (zS z9)) (c_X10_bookErrors _ G (u 4 0) (oR u) (u 0) (zS z9) (zc z9) (zp z9) hI)) rfl rfl (11 + bcO (zS z9)) 10 hd_of rfl ⟨Nat.le_of_ble_eq_true rfl, Nat.le_of_ble_eq_true rfl⟩ (Nat.le_of_ble_eq_true rfl) (show k + 0 + 150 + 3 + 300 + 0 + 0 + 0 ≤ 600086 by omega) (show n + 0 + 3000 + 18 + 1800 + 0 + 0 + 0 ≤ 7301442 by omega) (fun r9 u9 h9 => ?_)
    subst h9
    refine J_if_eq (tgt := 132) hC dL_law_127 (by decide) (fun _ => ?_) (fun c9 => absurd (err0 hC3) c9)
    refine J_iinc hC [(3, .int (nI (7 + (c + 1)))), (5, .int r1), (4, .int (nI xx)), (2, .ref (h1r 0)), (1, .ref (u 4 0)), (0, .ref (G.2.2.1 14))] dL_law_132 2 rfl (nI_inc _) (by decide) rfl ?_
    refine J_goto (tgt := 69) hC dL_law_135 (by decide) ?_
    refine J_lv [0, 3, 4, 5] rfl ?_
    exact ih (c + 1) z9 h1r r1r _ _ (by omega) (by omega) ⟨hS9, hd9, hC1, hC2, hC3⟩ hzn9 hzk9 (show k + 0 + 150 + 3 + 300 + 0 + 0 + 0 ≤ 500 + 453 * (c + 1) by omega) (show n + 0 + 3000 + 18 + 1800 + 0 + 0 + 0 ≤ 26000 + 4818 * (c + 1) by omega)

set_option maxHeartbeats 1000000 in
set_option maxRecDepth 100000 in
theorem law_go {x : JX} {G : gT} {w0 : Cond} (hC : JC x G RM1 cL_law w0 RL 6) (hst : (jl x).stackTraces = false) (hxT : xT (js x)) (hxN : xN (js x)) (hb : G.2.2.1 15 < 2 ^ 31) (hend : ∀ ws k n lv, k ≤ 600086 → n ≤ 7301442 → J x G ws k n lv [] 138) : J x G [] 0 0 [(0, .ref (G.2.2.1 14))] [] 0 := by
  refine J_new (ci := 10) hC [.null, .null, .null, .null, .null, .null, .null, .int 0, .int 0] wu_X10 rfl tyX10_ok dL_law_0 wk_L_19 wt_X10 wi_X10 (fun j hj => by rcases (show j = 0 ∨ j = 1 ∨ j = 2 ∨ j = 3 ∨ j = 4 ∨ j = 5 ∨ j = 6 ∨ j = 7 ∨ j = 8 by omega) with rfl | rfl | rfl | rfl | rfl | rfl | rfl | rfl | rfl <;> rfl) (Nat.le_of_ble_eq_true rfl) (Nat.le_of_ble_eq_true rfl) (fun o => ?_)
  refine J_dup hC dL_law_3 rfl ?_
  refine J_callC hC dL_law_4 wl_L_114 yc_X10 (c_X10_init _ G o) rfl rfl ⟨Nat.le_of_ble_eq_true rfl, Nat.le_of_ble_eq_true rfl⟩ (Nat.le_of_ble_eq_true rfl) (Nat.le_of_ble_eq_true rfl) (Nat.le_of_ble_eq_true rfl) (fun u hu => ?_)
  rw [← hu]
  obtain ⟨y0, e0⟩ : ∃ y, y = z0 := ⟨_, rfl⟩
  rw [← e0]
  have hi0 : (zi y0).2 = 0 := by rw [e0]; rfl
  have hn0 : zn y0 = 0 := by rw [e0]; rfl
  have hk0 : zk y0 = 0 := by rw [e0]; rfl
  refine J_astore_n hC [(1, .ref (u 4 0)), (0, .ref (G.2.2.1 14))] dL_law_7 rfl (by decide) rfl ?_
  refine J_aload_n hC dL_law_8 0 rfl rfl ?_
  refine J_aload_n hC dL_law_9 1 rfl rfl ?_
  refine J_callSa hC dL_law_10 wl_L_115 wi_L yi_L_text (fr_a (wc := []) (wr := ofW G u y0) (W1 := fun s => sgW G s.1 s.2.1 s.2.2.1 s.2.2.2 ++ ofW G u y0) (c_L_text _ G hb) (List.Perm.refl _) (fun _ => List.Perm.refl _)) rfl rfl ⟨Nat.le_of_ble_eq_true rfl, Nat.le_of_ble_eq_true rfl⟩ (Nat.le_of_ble_eq_true rfl) (Nat.le_of_ble_eq_true rfl) (Nat.le_of_ble_eq_true rfl) (fun v hv => ?_)
  obtain ⟨t, w9, n9, a9⟩ := v
  obtain ⟨v1, v2, v3⟩ := hv
  dsimp only at v1 v2 v3 ⊢
  refine J_callT0Sv hC hxT dL_law_13 wl_L_119 wi_L yi_L_says (c_L_says _ G u y0 t w9 n9 a9 (fun j => (textL G).getD j 0) v3 v2 (fun j hj => text_lt G j (by omega)) hi0 hst) (fun _ h9 => h9) rfl rfl ⟨Nat.le_of_ble_eq_true rfl, Nat.le_of_ble_eq_true rfl⟩ (Nat.le_of_ble_eq_true rfl) (Nat.le_of_ble_eq_true rfl) (Nat.le_of_ble_eq_true rfl) (fun q hq => ?_)
  refine J_sub (ws' := ofW G u (zIn y0 q)) (sgW G t w9 n9 a9) List.perm_append_comm ?_
  have hP := parse_ok (G := G) (q := q) (hq.1.trans v1) (fun j hj => hq.2 j (by rw [← hq.1]; exact hj))
  rw [← e0] at hP
  obtain ⟨tt, htt⟩ : ∃ t9, t9 = ztx (zIn y0 q) := ⟨_, rfl⟩
  rw [← htt] at hP
  obtain ⟨p1, p2, p3, p4, p5, p6⟩ := hP
  refine J_aload_n hC dL_law_16 0 rfl rfl ?_
  refine J_callW hC hxT hxN dL_law_17 wl_L_123 yw_loaded (w_loaded _ G u (zIn y0 q) (by show zn y0 < 8; omega) (by show zk y0 ≤ 8; omega) (by show q.2 ≤ 600; rw [hq.1]; omega) tt htt p1 hst) rfl rfl ⟨Nat.le_of_ble_eq_true rfl, Nat.le_of_ble_eq_true rfl⟩ (Nat.le_of_ble_eq_true rfl) (Nat.le_of_ble_eq_true rfl) (Nat.le_of_ble_eq_true rfl) (fun r2 u2 h2 => ?_)
  obtain ⟨h2, -⟩ := h2
  subst h2
  obtain ⟨z, hz⟩ : ∃ z9, z9 = zLd (zIn y0 q) tt := ⟨_, rfl⟩
  rw [← hz]
  have ez : zS z = tt.1 := by rw [hz]; rfl
  have ec : zc z = 0 := by rw [hz]; exact p1
  have hzn : zn z < 8 := by rw [hz]; exact Nat.mod_lt _ (by decide)
  have hzk : zk z ≤ 8 := by rw [hz]; exact Nat.min_le_right _ _
  rw [← ez] at p2 p3 p4 p5 p6 ⊢
  have hS := p3.1
  have hI := hS.ci
  refine J_iconst (v := 3) hC dL_law_20 rfl ?_
  refine J_ic_ne (tgt := 55) hC dL_law_21 (by decide) (fun c9 => absurd hS.2.2.1.1 c9) (fun _ => ?_)
  refine J_aload_n hC dL_law_24 0 rfl rfl ?_
  refine J_callVi hC dL_law_25 wl_L_127 yi_X10_errorCode (lo_i [] (c_X10_errorCode _ G (u 4 0) (oR u) (u 0) (zS z) (zc z) (zp z) hI)) rfl rfl 0 10 (of_0 G u z) rfl ⟨Nat.le_of_ble_eq_true rfl, Nat.le_of_ble_eq_true rfl⟩ (Nat.le_of_ble_eq_true rfl) (Nat.le_of_ble_eq_true rfl) (Nat.le_of_ble_eq_true rfl) (fun r9 u9 h9 => ?_)
  subst h9
  refine J_if_ne (tgt := 55) hC dL_law_28 (by decide) (fun c9 => absurd ec c9) (fun _ => ?_)
  refine J_aload_n hC dL_law_31 0 rfl rfl ?_
  refine J_callVi hC dL_law_32 wl_L_130 yi_X10_fairCount (lo_i [] (c_X10_fairCount _ G (u 4 0) (oR u) (u 0) (zS z) (zc z) (zp z) hI)) rfl rfl 0 10 (of_0 G u z) rfl ⟨Nat.le_of_ble_eq_true rfl, Nat.le_of_ble_eq_true rfl⟩ (Nat.le_of_ble_eq_true rfl) (Nat.le_of_ble_eq_true rfl) (Nat.le_of_ble_eq_true rfl) (fun r9 u9 h9 => ?_)
  subst h9
  refine J_iconst (v := 2) hC dL_law_35 rfl ?_
  refine J_ic_ne (tgt := 55) hC dL_law_36 (by decide) (fun c9 => absurd hS.2.2.1.2 c9) (fun _ => ?_)
  refine J_aload_n hC dL_law_39 0 rfl rfl ?_
  refine J_callVi hC dL_law_40 wl_L_133 yi_X10_seed (lo_i [] (c_X10_seed _ G (u 4 0) (oR u) (u 0) (zS z) (zc z) (zp z) hI)) rfl rfl 0 10 (of_0 G u z) rfl ⟨Nat.le_of_ble_eq_true rfl, Nat.le_of_ble_eq_true rfl⟩ (Nat.le_of_ble_eq_true rfl) (Nat.le_of_ble_eq_true rfl) (Nat.le_of_ble_eq_true rfl) (fun r9 u9 h9 => ?_)
  subst h9
  refine J_aload_n hC dL_law_43 1 rfl rfl ?_
  refine J_iconst (v := 0) hC dL_law_44 rfl ?_
  refine J_callSi hC dL_law_45 wl_L_33 wi_L yi_L_cell (c_L_cell _ G (ofW G u z) hb 0 (by decide)) rfl rfl ⟨Nat.le_of_ble_eq_true rfl, Nat.le_of_ble_eq_true rfl⟩ (Nat.le_of_ble_eq_true rfl) (Nat.le_of_ble_eq_true rfl) (Nat.le_of_ble_eq_true rfl) (fun r9 u9 h9 => ?_)
  subst h9
  have hs0 := scN_lt G 0
  refine J_sipush (v := 1024) hC dL_law_48 rfl ?_
  refine J_irem (v := nI (scN G 0 % 1024)) hC dL_law_51 (by decide) (nMd (by omega) (by decide) (by decide)) ?_
  refine J_ic_eq (tgt := 57) hC dL_law_52 (by decide) (fun _ => ?_) (fun c9 => absurd p4 c9)
  refine J_new (ci := 11) hC [.null, .null, .null, .null, .null, .null, .null, .null, .null, .null, .int 0, .int 0, .int 0, .int 0, .int 0, .int 0] wu_X11 rfl tyX11_ok dL_law_57 wk_L_136 wt_X11 wi_X11 (fun j hj => by rcases (show j = 0 ∨ j = 1 ∨ j = 2 ∨ j = 3 ∨ j = 4 ∨ j = 5 ∨ j = 6 ∨ j = 7 ∨ j = 8 ∨ j = 9 ∨ j = 10 ∨ j = 11 ∨ j = 12 ∨ j = 13 ∨ j = 14 ∨ j = 15 by omega) with rfl | rfl | rfl | rfl | rfl | rfl | rfl | rfl | rfl | rfl | rfl | rfl | rfl | rfl | rfl | rfl <;> rfl) (Nat.le_of_ble_eq_true rfl) (Nat.le_of_ble_eq_true rfl) (fun v => ?_)
  refine J_dup hC dL_law_60 rfl ?_
  refine J_aload_n hC dL_law_61 1 rfl rfl ?_
  refine J_callC hC dL_law_62 wl_L_138 yc_X11_init (appr_v (ofW G u z) (c_X11_init _ G v hb)) rfl rfl ⟨Nat.le_of_ble_eq_true rfl, Nat.le_of_ble_eq_true rfl⟩ (Nat.le_of_ble_eq_true rfl) (Nat.le_of_ble_eq_true rfl) (Nat.le_of_ble_eq_true rfl) (fun h hh => ?_)
  rw [← hh]
  refine J_perm (ws' := hdW G h (fun _ => 0) 0 0 (hSi G) ++ ofW G u z) List.perm_append_comm ?_
  refine J_wEq (wEq.app p2.w (wEq.rfl' _)) ?_
  have eb : bcO (zS z) = 0 := by rw [bcO, p5]; rfl
  have em : mcO (zS z) = 0 := by rw [mcO, p6]; rfl
  refine J_astore_n hC [(2, .ref (h 0)), (1, .ref (u 4 0)), (0, .ref (G.2.2.1 14))] dL_law_65 rfl (by decide) rfl ?_
  refine J_bipush (v := nI (7 + 0)) hC dL_law_66 rfl ?_
  refine J_istore_n hC [(3, .int (nI (7 + 0))), (2, .ref (h 0)), (1, .ref (u 4 0)), (0, .ref (G.2.2.1 14))] dL_law_68 rfl (by decide) rfl ?_
  refine J_lv [0, 1, 2, 3] rfl ?_
  have key := law_loop hC hst hxT hxN hb hend u 39 0 z h (fun _ => 0)
  rw [eb, em] at key
  exact key _ _ (by decide) (by decide) p3 hzn hzk (Nat.le_of_ble_eq_true rfl) (Nat.le_of_ble_eq_true rfl)


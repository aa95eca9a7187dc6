/-! THE PURE EQUIVALENCE: a page's text -/
theorem w_b_n : ∀ n, n < 128 → w_b (nI n) = nI n := by decide +kernel
/-- output: the same bytes so far -/
def OB (q q' : RT × Nat) : Prop := q.2 = q'.2 ∧ ∀ j, j < q.2 → q.1 j &&& 255 = q'.1 j
theorem OB.put {q q' : RT × Nat} (h : OB q q') {n : Nat} (hn : n < 128) : OB (w_put (nI n) q) (w_put (nI n) q') := by
  obtain ⟨h1, h2⟩ := h
  refine ⟨by show q.2 + 1 = q'.2 + 1; omega, fun j hj => ?_⟩
  have hj : j < q.2 + 1 := hj
  show upd q.1 q.2 (w_b (nI n)) j &&& 255 = upd q'.1 q'.2 (w_b (nI n)) j
  rw [← h1]
  by_cases c : j = q.2
  · rw [c, pk_us, pk_us, w_b_n n hn]
    exact (pk_andN (by omega) 8 (by decide)).trans (by rw [Nat.mod_eq_of_lt (by omega)])
  · rw [pk_un c, pk_un c]; exact h2 j (by omega)
theorem b_l1_v {k v : Nat} (q : RT × Nat) (sh : Int32) (s : Nat) (hk : k < 2 ^ 31) (hs : ((sh.toUInt32 &&& Int32.toUInt32 31).toBitVec % 32).toNat = s) (hv : k / 2 ^ s % 2 ^ 8 = v) : b_l1 (nI k) sh q = if v = 0 then q else w_put (nI v) q := by
  have e : iush (nI k) sh &&& 255 = nI v := by
    rw [iush, pk_ushrN (by omega) sh s hs, pk_andN (Nat.lt_of_le_of_lt (Nat.div_le_self _ _) (by omega)) 8 (by decide), hv]
  have hv2 : v < 256 := by rw [← hv]; exact Nat.mod_lt _ (by decide)
  rw [b_l1, e]
  by_cases c : v = 0
  · subst c; rw [if_pos (show nI 0 = (0 : Int32) from rfl), if_pos rfl]
  · rw [if_neg (show ¬ nI v = (0 : Int32) from fun d => c ((nI_eq (b := 0) (by omega) (by decide)).mp d)), if_neg c]
theorem w_l1_v {x v : Nat} (q : RT × Nat) (p : Nat) (hv : x / p % 27 = v) : w_l1 x p q = if v = 0 then q else w_put (nI (96 + v)) q := by
  rw [w_l1, hv]
  by_cases c : v = 0
  · subst c; rw [if_neg (by omega), if_pos rfl]
  · rw [if_pos (by omega), if_neg c]
theorem nam_eq {z x : Int32} (h : NR z x) (q : RT × Nat) : b_nam z q = w_nam (cl x) q := by
  obtain ⟨L, l1, l2, l3, rfl, rfl⟩ := h
  rw [cl_n (by have := k27_lt l2 l3; omega)]
  have hr := (k8_rng l1 l2 l3).2
  rcases nl_shape l1 l2 with ⟨a, rfl⟩ | ⟨a, b, rfl⟩ | ⟨a, b, c, rfl⟩ | ⟨a, b, c, d, rfl⟩ <;>
    simp only [List.mem_cons, List.not_mem_nil, or_false, forall_eq_or_imp, forall_eq] at l3 <;> simp only [k8] at hr ⊢ <;> simp only [k27]
  · rw [b_nam, b_l1_v (v := 0) _ 24 24 hr (by decide) (by omega), b_l1_v (v := 0) _ 16 16 hr (by decide) (by omega), b_l1_v (v := 0) _ 8 8 hr (by decide) (by omega), b_l1_v (v := 96 + a) _ 0 0 hr (by decide) (by omega),
      w_nam, w_l1_v (v := a) _ 19683 (by omega), w_l1_v (v := 0) _ 729 (by omega), w_l1_v (v := 0) _ 27 (by omega), w_l1_v (v := 0) _ 1 (by omega)]
    simp only [if_true, if_neg (show ¬ a = 0 by omega), if_neg (show ¬ 96 + a = 0 by omega)]
  · rw [b_nam, b_l1_v (v := 0) _ 24 24 hr (by decide) (by omega), b_l1_v (v := 0) _ 16 16 hr (by decide) (by omega), b_l1_v (v := 96 + a) _ 8 8 hr (by decide) (by omega), b_l1_v (v := 96 + b) _ 0 0 hr (by decide) (by omega),
      w_nam, w_l1_v (v := a) _ 19683 (by omega), w_l1_v (v := b) _ 729 (by omega), w_l1_v (v := 0) _ 27 (by omega), w_l1_v (v := 0) _ 1 (by omega)]
    simp only [if_true, if_neg (show ¬ a = 0 by omega), if_neg (show ¬ 96 + a = 0 by omega), if_neg (show ¬ b = 0 by omega), if_neg (show ¬ 96 + b = 0 by omega)]
  · rw [b_nam, b_l1_v (v := 0) _ 24 24 hr (by decide) (by omega), b_l1_v (v := 96 + a) _ 16 16 hr (by decide) (by omega), b_l1_v (v := 96 + b) _ 8 8 hr (by decide) (by omega), b_l1_v (v := 96 + c) _ 0 0 hr (by decide) (by omega),
      w_nam, w_l1_v (v := a) _ 19683 (by omega), w_l1_v (v := b) _ 729 (by omega), w_l1_v (v := c) _ 27 (by omega), w_l1_v (v := 0) _ 1 (by omega)]
    simp only [if_true, if_neg (show ¬ a = 0 by omega), if_neg (show ¬ 96 + a = 0 by omega), if_neg (show ¬ b = 0 by omega), if_neg (show ¬ 96 + b = 0 by omega), if_neg (show ¬ c = 0 by omega), if_neg (show ¬ 96 + c = 0 by omega)]
  · have e1 : ((((0 * 256 + (96 + a)) * 256 + (96 + b)) * 256 + (96 + c)) * 256 + (96 + d)) / 2 ^ 24 = 96 + a := Nat.div_eq_of_lt_le (by omega) (by omega)
    have e2 : ((((0 * 256 + (96 + a)) * 256 + (96 + b)) * 256 + (96 + c)) * 256 + (96 + d)) / 2 ^ 16 = (96 + a) * 256 + (96 + b) := Nat.div_eq_of_lt_le (by omega) (by omega)
    have d1 : ((((0 * 27 + a) * 27 + b) * 27 + c) * 27 + d) / 19683 = a := Nat.div_eq_of_lt_le (by omega) (by omega)
    have d2 : ((((0 * 27 + a) * 27 + b) * 27 + c) * 27 + d) / 729 = a * 27 + b := Nat.div_eq_of_lt_le (by omega) (by omega)
    have d3 : ((((0 * 27 + a) * 27 + b) * 27 + c) * 27 + d) / 27 = (a * 27 + b) * 27 + c := Nat.div_eq_of_lt_le (by omega) (by omega)
    rw [b_nam, b_l1_v (v := 96 + a) _ 24 24 hr (by decide) (by rw [e1]; omega), b_l1_v (v := 96 + b) _ 16 16 hr (by decide) (by rw [e2]; omega), b_l1_v (v := 96 + c) _ 8 8 hr (by decide) (by omega), b_l1_v (v := 96 + d) _ 0 0 hr (by decide) (by omega),
      w_nam, w_l1_v (v := a) _ 19683 (by rw [d1]; omega), w_l1_v (v := b) _ 729 (by rw [d2]; omega), w_l1_v (v := c) _ 27 (by rw [d3]; omega), w_l1_v (v := d) _ 1 (by omega)]
    simp only [if_neg (show ¬ a = 0 by omega), if_neg (show ¬ 96 + a = 0 by omega), if_neg (show ¬ b = 0 by omega), if_neg (show ¬ 96 + b = 0 by omega), if_neg (show ¬ c = 0 by omega), if_neg (show ¬ 96 + c = 0 by omega), if_neg (show ¬ d = 0 by omega), if_neg (show ¬ 96 + d = 0 by omega)]
theorem OB.l1 {q q' : RT × Nat} (h : OB q q') (x p : Nat) : OB (w_l1 x p q) (w_l1 x p q') := by
  have hm := Nat.mod_lt (x / p) (show 0 < 27 by decide)
  unfold w_l1
  split
  · exact h.put (by omega)
  · exact h
theorem OB.nam {q q' : RT × Nat} (h : OB q q') {z x : Int32} (hn : NR z x) : OB (b_nam z q) (w_nam (cl x) q') := by
  rw [nam_eq hn]
  exact (((h.l1 _ _).l1 _ _).l1 _ _).l1 _ _
theorem OB.d1 {q q' : RT × Nat} (h : OB q q') (x u : Nat) : OB (b_d1 x u q) (b_d1 x u q') := by
  have hm := Nat.mod_lt (x / u) (show 0 < 10 by decide)
  unfold b_d1
  split
  · exact h.put (by omega)
  · exact h
theorem OB.dec {q q' : RT × Nat} (h : OB q q') (x : Nat) : OB (b_dec x q) (w_dec x q') := by
  rw [← b_dec_eq]
  exact (((((((((h.d1 x _).d1 x _).d1 x _).d1 x _).d1 x _).d1 x _).d1 x _).d1 x _).d1 x _).d1 x _
section PAGE
variable {S : CT} {g : RT} {bc vc fc mc : Nat}
theorem XC.wp (h : XC S g bc vc fc mc) {s i : Nat} (hi : i < bc) {q q' : RT × Nat} (hq : OB q q') (hs : s < i ↔ 0 < q.2) : OB (b_wp S s i q) (w_fc g i q') ∧ 0 < (b_wp S s i q).2 ∧ (b_wp S s i q).2 ≤ q.2 + 16 := by
  have hv := h.v
  have h1 : OB (if s < i then w_put 32 q else q) (if 0 < q'.2 then w_put 32 q' else q') := by
    by_cases c : s < i
    · rw [if_pos c, if_pos (by rw [← hq.1]; exact hs.mp c)]
      exact hq.put (n := 32) (by decide)
    · rw [if_neg c, if_neg (by rw [← hq.1]; exact fun d => c (hs.mpr d))]
      exact hq
  have hl : (if s < i then w_put 32 q else q).2 ≤ q.2 + 1 := by
    split
    · exact Nat.le_refl _
    · omega
  obtain ⟨w, w1, w2⟩ := h.2.1.2.2.2.2.1 i hi
  have e0 : (S 10 i).toNatClampNeg = w := by rw [h.1.b10 i hi, w2, nI_clamp (by omega)]
  have e1 : vOf g i = w := by rw [vOf, w2, nI_clamp (by omega)]
  have e2 : (S 11 i).toNatClampNeg = cl (g (73 + 5 * i)) := by rw [h.1.b11 i hi]; rfl
  rw [b_wp, w_fc, e0, e1, e2, b_fc, h.1.b12 i hi]
  have hN := (h1.nam (h.1.2.1 w w1)).dec (cl (g (73 + 5 * i)))
  refine ⟨?_, Nat.succ_pos _, ?_⟩
  · by_cases c0 : g (74 + 5 * i) = 0
    · rw [if_pos c0]; exact hN.put (n := 115) (by decide)
    · rw [if_neg c0]
      by_cases c1 : g (74 + 5 * i) = 1
      · rw [if_pos c1]; exact hN.put (n := 114) (by decide)
      · rw [if_neg c1]; exact hN.put (n := 116) (by decide)
  · have := b_fc_le S i w (cl (g (73 + 5 * i))) (if s < i then w_put 32 q else q)
    rw [b_fc, h.1.b12 i hi] at this
    omega
theorem XC.wpL (h : XC S g bc vc fc mc) {s : Nat} : ∀ (n i : Nat) (q q' : RT × Nat), i + n ≤ bc → s ≤ i → OB q q' → (s < i ↔ 0 < q.2) → OB (fo (b_wp S s) i n q) (fo (w_fc g) i n q') ∧ (fo (b_wp S s) i n q).2 ≤ q.2 + 16 * n
  | 0, _, q, _, _, _, hq, _ => ⟨hq, Nat.le_refl _⟩
  | n + 1, i, q, q', hi, hsi, hq, hs => by
    obtain ⟨a1, a2, a3⟩ := h.wp (s := s) (show i < bc by omega) hq hs
    obtain ⟨b1, b2⟩ := XC.wpL (s := s) h n (i + 1) _ _ (by omega) (by omega) a1 ⟨fun _ => a2, fun _ => by omega⟩
    rw [fo, fo]
    exact ⟨b1, by omega⟩
theorem XC.page (h : XC S g bc vc fc mc) {w : Nat} (hw : 4 * w < bc) (f f' : RT) : OB (b_page S w (f, 0)) (w_page g w bc (f', 0)) ∧ (b_page S w (f, 0)).2 ≤ 64 := by
  rw [b_page, w_page, h.cS.1]
  obtain ⟨a1, a2⟩ := h.wpL (s := 4 * w) (min bc (4 * w + 4) - 4 * w) (4 * w) (f, 0) (f', 0) (by omega) (Nat.le_refl _) ⟨rfl, fun j hj => absurd hj (Nat.not_lt_zero j)⟩ ⟨fun h => absurd h (Nat.lt_irrefl _), fun h => absurd h (Nat.lt_irrefl _)⟩
  refine ⟨a1, Nat.le_trans a2 ?_⟩
  show 0 + _ ≤ 64
  omega
end PAGE

/-! THE PURE EQUIVALENCE: names, bytes -/
theorem bp_b (x : Int32) : x.toInt8.toInt32 &&& 255 = x &&& 255 := by
  apply Int32.toBitVec_inj.mp
  rw [Int32.toBitVec_and, Int32.toBitVec_and, Int8.toBitVec_toInt32, Int32.toBitVec_toInt8]
  apply BitVec.eq_of_getLsbD_eq
  intro i hi
  rw [BitVec.getLsbD_and, BitVec.getLsbD_and]
  have hm : ∀ i < 32, 8 ≤ i → (255 : Int32).toBitVec.getLsbD i = false := by decide
  rcases Nat.lt_or_ge i 8 with z | z
  · rw [BitVec.getLsbD_signExtend, BitVec.getLsbD_signExtend, if_pos z, if_pos hi]
    simp only [z, hi, decide_true, Bool.true_and]
  · rw [hm i hi z]; simp
theorem w_b_and (x : Int32) : w_b x &&& 255 = x &&& 255 := by rw [w_b, pk_vb, bp_b]
theorem sh_low (w s : Int32) (k : Nat) (hk : k = 0 ∨ k = 8 ∨ k = 16 ∨ k = 24) (hu : ((s.toUInt32 &&& Int32.toUInt32 31).toBitVec % 32).toNat = k) (hs : ((s &&& 31).toBitVec.smod 32).toNat = k) : w_b (iush w s) &&& 255 = (w >>> (s &&& 31)) &&& 255 := by
  rw [w_b_and, pk_and _ 8 (by decide), pk_and _ 8 (by decide), iush, pk_ushr w s k hu]
  have h1 := pk_shr w (s &&& 31) k hs
  have e1 : (w >>> (s &&& 31)).toInt = if 2 * (w >>> (s &&& 31)).toBitVec.toNat < 2 ^ 32 then ((w >>> (s &&& 31)).toBitVec.toNat : Int) else ((w >>> (s &&& 31)).toBitVec.toNat : Int) - (2 ^ 32 : Nat) := BitVec.toInt_eq_toNat_cond _
  have e2 : w.toInt = if 2 * w.toBitVec.toNat < 2 ^ 32 then (w.toBitVec.toNat : Int) else (w.toBitVec.toNat : Int) - (2 ^ 32 : Nat) := BitVec.toInt_eq_toNat_cond _
  rw [Int.shiftRight_eq_div_pow] at h1
  have l1 := (w >>> (s &&& 31)).toBitVec.isLt
  have l2 := w.toBitVec.isLt
  generalize (w >>> (s &&& 31)).toBitVec.toNat = A at *
  generalize (w >>> (s &&& 31)).toInt = AI at *
  generalize w.toBitVec.toNat = B at *
  generalize w.toInt = BI at *
  refine congrArg nI ?_
  rcases hk with rfl | rfl | rfl | rfl <;> simp only [Nat.reducePow] at * <;> split at e1 <;> split at e2 <;> omega
/-- input: the same bytes everywhere -/
def IB (q : RT × Nat) (f : RT) (n : Nat) : Prop := q.2 = n ∧ ∀ j, j < n → q.1 j &&& 255 = f j
theorem IB.put {q : RT × Nat} {f : RT} {n : Nat} (h : IB q f n) {x y : Int32} (e : w_b x &&& 255 = y) : IB (w_put x q) (upd f n y) (n + 1) := by
  refine ⟨by rw [w_put, h.1], fun j hj => ?_⟩
  show upd q.1 q.2 (w_b x) j &&& 255 = upd f n y j
  rw [h.1]
  by_cases c : j = n
  · subst c; rw [pk_us, pk_us, e]
  · rw [pk_un c, pk_un c]; exact h.2 j (by omega)
/-- the model's input grows -/
def AI (M M' : CT) (q : RT × Nat) (n : Nat) : Prop := IB q (M' 6) n ∧ M' 8 3 = nI n ∧ (∀ r, r ≠ 6 → r ≠ 8 → M' r = M r) ∧ ∀ j, j ≠ 3 → M' 8 j = M 8 j
theorem AI.put {M M' : CT} {q : RT × Nat} {n : Nat} (h : AI M M' q n) (w s : Int32) (k : Nat) (hk : k = 0 ∨ k = 8 ∨ k = 16 ∨ k = 24) (hu : ((s.toUInt32 &&& Int32.toUInt32 31).toBitVec % 32).toNat = k) (hs : ((s &&& 31).toBitVec.smod 32).toNat = k) : AI M (q_aw1 w s n M') (w_put (iush w s) q) (n + 1) := by
  obtain ⟨h1, h2, h3, h4⟩ := h
  refine ⟨h1.put (sh_low w s k hk hu hs), rfl, fun r r6 r8 => ?_, fun j hj => ?_⟩
  · rw [q_aw1, us_row r8, us_row r6]; exact h3 r r6 r8
  · rw [q_aw1, us_un (by omega), us_row (by decide)]; exact h4 j hj
theorem AI.four {M M' : CT} {q : RT × Nat} {n : Nat} (h : AI M M' q n) (w : Int32) : AI M (q_aw w n M') (b_four w q) (n + 4) :=
  (((h.put w 24 24 (by decide) (by decide) (by decide)).put w 16 16 (by decide) (by decide) (by decide)).put w 8 8 (by decide) (by decide) (by decide)).put w 0 0 (by decide) (by decide) (by decide)
theorem AI.app {M : CT} {q : RT × Nat} {n : Nat} (h : AI M M q n) (a b c d e : Int32) : AI M (q_ai a b c d e n M) (b_app a b c d e q) (n + 20) := ((((h.four a).four b).four c).four d).four e
-- names
theorem nl_shape : ∀ {L : List Nat}, 1 ≤ L.length → L.length ≤ 4 → (∃ a, L = [a]) ∨ (∃ a b, L = [a, b]) ∨ (∃ a b c, L = [a, b, c]) ∨ ∃ a b c d, L = [a, b, c, d]
  | [], h, _ => absurd h (by decide)
  | [a], _, _ => Or.inl ⟨a, rfl⟩
  | [a, b], _, _ => Or.inr (Or.inl ⟨a, b, rfl⟩)
  | [a, b, c], _, _ => Or.inr (Or.inr (Or.inl ⟨a, b, c, rfl⟩))
  | [a, b, c, d], _, _ => Or.inr (Or.inr (Or.inr ⟨a, b, c, d, rfl⟩))
  | a :: b :: c :: d :: e :: L, _, h => by simp at h
theorem k8_inj {L K : List Nat} (l1 : 1 ≤ L.length) (l2 : L.length ≤ 4) (l3 : ∀ c, c ∈ L → 1 ≤ c ∧ c ≤ 26) (k1 : 1 ≤ K.length) (k2 : K.length ≤ 4) (k3 : ∀ c, c ∈ K → 1 ≤ c ∧ c ≤ 26) (e : k8 L 0 = k8 K 0) : L = K := by
  rcases nl_shape l1 l2 with ⟨a, rfl⟩ | ⟨a, b, rfl⟩ | ⟨a, b, c, rfl⟩ | ⟨a, b, c, d, rfl⟩ <;> rcases nl_shape k1 k2 with ⟨x, rfl⟩ | ⟨x, y, rfl⟩ | ⟨x, y, z, rfl⟩ | ⟨x, y, z, w, rfl⟩ <;>
  simp only [List.mem_cons, List.not_mem_nil, or_false, forall_eq_or_imp, forall_eq] at l3 k3 <;> simp only [k8] at e <;> simp only [List.cons.injEq, and_true, reduceCtorEq, and_false] <;> omega
theorem k27_inj {L K : List Nat} (l1 : 1 ≤ L.length) (l2 : L.length ≤ 4) (l3 : ∀ c, c ∈ L → 1 ≤ c ∧ c ≤ 26) (k1 : 1 ≤ K.length) (k2 : K.length ≤ 4) (k3 : ∀ c, c ∈ K → 1 ≤ c ∧ c ≤ 26) (e : k27 4 L 0 = k27 4 K 0) : L = K := by
  rcases nl_shape l1 l2 with ⟨a, rfl⟩ | ⟨a, b, rfl⟩ | ⟨a, b, c, rfl⟩ | ⟨a, b, c, d, rfl⟩ <;> rcases nl_shape k1 k2 with ⟨x, rfl⟩ | ⟨x, y, rfl⟩ | ⟨x, y, z, rfl⟩ | ⟨x, y, z, w, rfl⟩ <;>
  simp only [List.mem_cons, List.not_mem_nil, or_false, forall_eq_or_imp, forall_eq] at l3 k3 <;> simp only [k27] at e <;> simp only [List.cons.injEq, and_true, reduceCtorEq, and_false] <;> omega
theorem k8_rng {L : List Nat} (l1 : 1 ≤ L.length) (l2 : L.length ≤ 4) (l3 : ∀ c, c ∈ L → 1 ≤ c ∧ c ≤ 26) : 97 ≤ k8 L 0 ∧ k8 L 0 < 2 ^ 31 := by
  rcases nl_shape l1 l2 with ⟨a, rfl⟩ | ⟨a, b, rfl⟩ | ⟨a, b, c, rfl⟩ | ⟨a, b, c, d, rfl⟩ <;>
  simp only [List.mem_cons, List.not_mem_nil, or_false, forall_eq_or_imp, forall_eq] at l3 <;> simp only [k8] <;> omega
theorem nI_inj {a b : Nat} (ha : a < 2 ^ 31) (hb : b < 2 ^ 31) (h : nI a = nI b) : a = b := (nI_eq ha hb).mp h
theorem NR.inj {z x z' x' : Int32} (h : NR z x) (h' : NR z' x') : z = z' ↔ x = x' := by
  obtain ⟨L, l1, l2, l3, rfl, rfl⟩ := h
  obtain ⟨K, k1, k2, k3, rfl, rfl⟩ := h'
  have a1 := k8_rng l1 l2 l3
  have a2 := k8_rng k1 k2 k3
  have b1 := k27_lt l2 l3
  have b2 := k27_lt k2 k3
  constructor
  · intro e
    rw [k8_inj l1 l2 l3 k1 k2 k3 (nI_inj a1.2 a2.2 e)]
  · intro e
    rw [k27_inj l1 l2 l3 k1 k2 k3 (nI_inj (by omega) (by omega) e)]
theorem NR.ne {z x : Int32} (h : NR z x) : ¬ z = 0 ∧ ¬ x = -1 := by
  obtain ⟨L, l1, l2, l3, rfl, rfl⟩ := h
  have a1 := k8_rng l1 l2 l3
  have b1 := k27_lt l2 l3
  exact ⟨fun e => by have := nI_inj (b := 0) a1.2 (by decide) e; omega, nI_ne_m1 (by omega)⟩
theorem or_add {a b : Nat} (ha : a < 2 ^ 24) (hb : b < 256) : (nI a <<< (8 &&& 31)) ||| nI b = nI (a * 256 + b) := by
  have e : nI a <<< (8 &&& 31) = nI (a * 2 ^ 8) := pk_shlN _ 8 (by decide) (by omega)
  rw [e]
  apply Int32.toBitVec_inj.mp
  apply BitVec.eq_of_toNat_eq
  rw [Int32.toBitVec_or, BitVec.toNat_or, pk_tn (by omega), pk_tn (by omega), pk_tn (by omega), ← Nat.shiftLeft_eq, ← Nat.shiftLeft_add_eq_or_of_lt hb, Nat.shiftLeft_eq]
theorem let_nat {x : Int32} (h : q_let x) : ∃ c, 1 ≤ c ∧ c ≤ 26 ∧ x = nI (96 + c) := by
  obtain ⟨h1, h2⟩ := h
  have h0 : ¬ x < 0 := nlt_of h1 (by decide)
  obtain ⟨j, hj, rfl⟩ := nI_of h0
  have a1 : ¬ j < 97 := fun c => h1 ((nI_ltI (b := 97) hj (by decide)).mpr c)
  have a2 : ¬ 122 < j := fun c => h2 ((nI_ltI (a := 122) (by decide) hj).mpr c)
  exact ⟨j - 96, by omega, by omega, by rw [show 96 + (j - 96) = j by omega]⟩
theorem nat_let {c : Nat} (h1 : 1 ≤ c) (h2 : c ≤ 26) : q_let (nI (96 + c)) := ⟨nI_nlt (b := 97) (by omega) (by omega), nI_nlt (a := 122) (by omega) (by decide)⟩
theorem b_nmL_at {f : RT} {il : Nat} : ∀ (L : List Nat) (s a : Nat), L.length ≤ 4 → a < 256 ^ (4 - L.length) → s + L.length ≤ il → (∀ i (h : i < L.length), f (s + i) = nI (96 + L[i])) → (∀ c, c ∈ L → 1 ≤ c ∧ c ≤ 26) → b_nmL f il s L.length (nI a) = nI (k8 L a)
  | [], _, _, _, _, _, _, _ => rfl
  | c :: L, s, a, hl, ha, hs, hf, hc => by
    have hc1 := hc c (List.mem_cons_self)
    have e0 : f s = nI (96 + c) := hf 0 (by simp)
    have hat : q_at f il s = nI (96 + c) := by rw [q_at, if_pos (by simp at hs; omega), e0]
    simp only [List.length_cons] at hl ha hs ⊢
    have ha' : a < 2 ^ 24 ∧ a * 256 + (96 + c) < 256 ^ (4 - L.length) := by
      rcases (show L.length = 0 ∨ L.length = 1 ∨ L.length = 2 ∨ L.length = 3 by omega) with e | e | e | e <;> rw [e] at ha ⊢ <;> simp only [Nat.reduceAdd, Nat.reduceSub, Nat.reducePow] at ha ⊢ <;> omega
    rw [b_nmL, hat, if_pos (nat_let hc1.1 hc1.2), or_add ha'.1 (by omega)]
    exact b_nmL_at L (s + 1) (a * 256 + (96 + c)) (by omega) ha'.2 (by omega) (fun i h => by rw [show s + 1 + i = s + (i + 1) by omega]; exact hf (i + 1) (by simpa using h)) (fun d hd => hc d (List.mem_cons_of_mem _ hd))
theorem q_nmL_at {f : RT} {s : Nat} (L : List Nat) (hf : ∀ i (h : i < L.length), f (s + i) = nI (96 + L[i])) (hc : ∀ c, c ∈ L → 1 ≤ c ∧ c ≤ 26) : ∀ (k i a : Nat), q_nmL f s L.length i k (nI a) = nI (k27 k (L.drop i) a)
  | 0, _, _ => rfl
  | k + 1, i, a => by
    rw [q_nmL]
    by_cases q : i < L.length
    · have hm := hc L[i] (List.getElem_mem q)
      rw [if_pos q, hf i q, if_pos (nat_let hm.1 hm.2), List.drop_eq_getElem_cons q, k27, show (27 : Int32) = nI 27 from rfl, pk_mul, show (96 : Int32) = nI 96 from rfl, pk_sub (by omega), nI_add, show 96 + L[i] - 96 = L[i] by omega]
      exact q_nmL_at L hf hc k (i + 1) _
    · rw [if_neg q, List.drop_eq_nil_of_le (by omega), show (27 : Int32) = nI 27 from rfl, pk_mul, k27]
      have := q_nmL_at L hf hc k (i + 1) (a * 27)
      rw [List.drop_eq_nil_of_le (by omega)] at this
      exact this
theorem b_nmL_0 {f : RT} {il : Nat} : ∀ (k s : Nat) (acc : Int32), (∃ i, i < k ∧ ¬ q_let (q_at f il (s + i))) → b_nmL f il s k acc = 0
  | 0, _, _, ⟨i, h, _⟩ => absurd h (by omega)
  | k + 1, s, acc, ⟨i, h, hn⟩ => by
    rw [b_nmL]
    by_cases q : q_let (q_at f il s)
    · rw [if_pos q]
      have hi : i ≠ 0 := fun e => hn (by rw [e]; exact q)
      exact b_nmL_0 k (s + 1) _ ⟨i - 1, by omega, by rw [show s + 1 + (i - 1) = s + i by omega]; exact hn⟩
    · rw [if_neg q]
theorem q_nmL_m1 {f : RT} {a n : Nat} : ∀ (k i : Nat) (acc : Int32), (∃ j, i ≤ j ∧ j < n ∧ j < i + k ∧ ¬ q_let (f (a + j))) → q_nmL f a n i k acc = -1
  | 0, _, _, ⟨j, h1, _, h3, _⟩ => absurd h3 (by omega)
  | k + 1, i, acc, ⟨j, h1, h2, h3, hn⟩ => by
    rw [q_nmL, if_pos (by omega)]
    by_cases q : q_let (f (a + i))
    · rw [if_pos q]
      have hi : j ≠ i := fun e => hn (by rw [e]; exact q)
      exact q_nmL_m1 k (i + 1) _ ⟨j, by omega, h2, by omega, hn⟩
    · rw [if_neg q]
theorem nm_alt (f : RT) (il s n : Nat) (h : s + n ≤ il) : (1 ≤ n ∧ n ≤ 4 ∧ (∀ i, i < n → q_let (f (s + i))) ∧ NR (b_nm f il s (s + n)) (q_nm f s n)) ∨ (¬ (1 ≤ n ∧ n ≤ 4 ∧ ∀ i, i < n → q_let (f (s + i))) ∧ b_nm f il s (s + n) = 0 ∧ q_nm f s n = -1) := by
  have e : s + n - s = n := by omega
  by_cases h4 : n ≤ 4
  · by_cases h1 : 1 ≤ n
    · by_cases hl : ∀ i, i < n → q_let (f (s + i))
      · refine Or.inl ⟨h1, h4, hl, ?_⟩
        have hex : ∀ i, ∃ c, i < n → 1 ≤ c ∧ c ≤ 26 ∧ f (s + i) = nI (96 + c) := fun i => by
          by_cases hi : i < n
          · obtain ⟨c, hc⟩ := let_nat (hl i hi)
            exact ⟨c, fun _ => hc⟩
          · exact ⟨0, fun h => absurd h hi⟩
        obtain ⟨cs, hcs⟩ := Classical.axiomOfChoice hex
        have hlen : ((List.range n).map cs).length = n := by simp
        have hf : ∀ i (h : i < ((List.range n).map cs).length), f (s + i) = nI (96 + ((List.range n).map cs)[i]) := fun i hi => by
          rw [hlen] at hi
          simp only [List.getElem_map, List.getElem_range]
          exact (hcs i hi).2.2
        have hc : ∀ c, c ∈ (List.range n).map cs → 1 ≤ c ∧ c ≤ 26 := fun c hc => by
          obtain ⟨i, hi, rfl⟩ := List.mem_map.mp hc
          have := hcs i (List.mem_range.mp hi)
          exact ⟨this.1, this.2.1⟩
        refine ⟨(List.range n).map cs, by omega, by omega, hc, ?_, ?_⟩
        · have := b_nmL_at (il := il) ((List.range n).map cs) s 0 (by omega) (Nat.pow_pos (by decide)) (by omega) hf hc
          rw [hlen] at this
          rw [b_nm, e, if_pos h4]
          exact this
        · have := q_nmL_at ((List.range n).map cs) hf hc 4 0 0
          rw [hlen] at this
          rw [q_nm, if_pos ⟨h1, h4⟩]
          exact this
      · refine Or.inr ⟨fun q => hl q.2.2, ?_, ?_⟩
        · have : ∃ i, i < n ∧ ¬ q_let (f (s + i)) := by
            apply Classical.byContradiction
            intro q
            exact hl (fun i hi => Classical.byContradiction fun c => q ⟨i, hi, c⟩)
          obtain ⟨i, i1, i2⟩ := this
          rw [b_nm, e, if_pos h4]
          exact b_nmL_0 n s 0 ⟨i, i1, by rw [q_at, if_pos (by omega)]; exact i2⟩
        · have : ∃ i, i < n ∧ ¬ q_let (f (s + i)) := by
            apply Classical.byContradiction
            intro q
            exact hl (fun i hi => Classical.byContradiction fun c => q ⟨i, hi, c⟩)
          obtain ⟨i, i1, i2⟩ := this
          rw [q_nm, if_pos ⟨h1, h4⟩]
          exact q_nmL_m1 4 0 0 ⟨i, by omega, i1, by omega, i2⟩
    · refine Or.inr ⟨fun q => h1 q.1, ?_, by rw [q_nm, if_neg (fun q => h1 q.1)]⟩
      rw [b_nm, e, if_pos h4, show n = 0 by omega]
      rfl
  · exact Or.inr ⟨fun q => h4 q.2.1, by rw [b_nm, e, if_neg h4], by rw [q_nm, if_neg (fun q => h4 q.2)]⟩
section FIND
variable {S : CT} {g : RT} {bc vc fc mc : Nat}
theorem SP.vn (h : SP S g bc vc fc mc) {z x : Int32} (hn : NR z x) : s_num (S 0) z vc = m_vn g x vc :=
  fnd_congr vc 0 (fun j _ hj => by
    have := (h.2.1 j (by omega)).inj hn
    by_cases q : S 0 j = z
    · rw [decide_eq_true q, decide_eq_true (this.mp q)]
    · rw [decide_eq_false q, decide_eq_false (fun c => q (this.mpr c))])
theorem SP.fn (h : SP S g bc vc fc mc) {z x : Int32} (hn : NR z x) : s_num (S 3) z fc = m_fn g x fc :=
  fnd_congr fc 0 (fun j _ hj => by
    have := (h.2.2.1 j (by omega)).inj hn
    by_cases q : S 3 j = z
    · rw [decide_eq_true q, decide_eq_true (this.mp q)]
    · rw [decide_eq_false q, decide_eq_false (fun c => q (this.mpr c))])
theorem fnd_no {p : Nat → Bool} : ∀ (n i : Nat), (∀ j, i ≤ j → j < i + n → p j = false) → fnd p i n = -1
  | 0, _, _ => rfl
  | n + 1, i, h => by
    rw [fnd, if_neg (by rw [h i (Nat.le_refl _) (by omega)]; decide)]
    exact fnd_no n (i + 1) (fun j a b => h j (by omega) (by omega))
theorem SP.v0 (h : SP S g bc vc fc mc) : s_num (S 0) 0 vc = -1 := fnd_no vc 0 (fun j _ hj => decide_eq_false (h.2.1 j (by omega)).ne.1)
theorem SP.f0 (h : SP S g bc vc fc mc) : s_num (S 3) 0 fc = -1 := fnd_no fc 0 (fun j _ hj => decide_eq_false (h.2.2.1 j (by omega)).ne.1)
theorem q_nmL_congr {f f' : RT} {a n : Nat} (h : ∀ i, i < n → f (a + i) = f' (a + i)) : ∀ (k i : Nat) (acc : Int32), q_nmL f a n i k acc = q_nmL f' a n i k acc
  | 0, _, _ => rfl
  | k + 1, i, acc => by
    rw [q_nmL, q_nmL]
    by_cases q : i < n
    · rw [if_pos q, if_pos q, h i q, q_nmL_congr h k (i + 1)]
    · rw [if_neg q, if_neg q, q_nmL_congr h k (i + 1)]
theorem q_nm_congr {f f' : RT} {a n : Nat} (h : ∀ i, i < n → f (a + i) = f' (a + i)) : q_nm f a n = q_nm f' a n := by rw [q_nm, q_nm, q_nmL_congr h]
theorem XC.find (h : XC S g bc vc fc mc) {f f' : RT} {il : Nat} (hf : ∀ j, j < il → f j = f' j) : s_find S (b_nm f il 0 il) = m_findName g f' il vc fc := by
  have e := q_nm_congr (a := 0) (n := il) (f := f) (f' := f') (fun i hi => by rw [Nat.zero_add]; exact hf i hi)
  rw [s_find, h.cS.2.1, h.cS.2.2.1, m_findName, ← e]
  rcases nm_alt f il 0 il (by omega) with ⟨-, -, -, hn⟩ | ⟨-, h1, h2⟩
  · rw [Nat.zero_add] at hn
    rw [h.1.vn hn, h.1.fn hn, if_neg hn.ne.2]
  · rw [Nat.zero_add] at h1
    rw [h1, h2, if_pos rfl, h.1.v0, if_pos rfl, h.1.f0, if_pos rfl]
end FIND

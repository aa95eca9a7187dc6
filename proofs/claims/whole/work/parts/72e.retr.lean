/-! THE PURE EQUIVALENCE: a page is taken back -/
theorem fo_snoc {σ : Type} (b : Nat → σ → σ) : ∀ (n i : Nat) (s : σ), fo b i (n + 1) s = b (i + n) (fo b i n s)
  | 0, _, _ => rfl
  | n + 1, i, s => by
    rw [fo, fo_snoc b n (i + 1) (b i s), show i + 1 + n = i + (n + 1) by omega]
    rfl
def dsm (F : Nat → Int32) (lo : Nat) : Nat → Int32
  | 0 => 0
  | n + 1 => F (lo + n) + dsm F lo n
theorem dsm_congr {F F' : Nat → Int32} {lo : Nat} : ∀ n, (∀ k, lo ≤ k → k < lo + n → F k = F' k) → dsm F lo n = dsm F' lo n
  | 0, _ => rfl
  | n + 1, h => by rw [dsm, dsm, h (lo + n) (by omega) (by omega), dsm_congr n (fun k a b => h k a (by omega))]
def dcl (x : Int32) : Int32 := clampT (x + (-5))
/-- trust of v, a forecast of village V k for each place k -/
def stv (V : Nat → Nat) (v k : Nat) (x : Int32) : Int32 := if V k = v then dcl x else x
def trv (V : Nat → Nat) (v lo : Nat) : Nat → Int32 → Int32
  | 0, x => x
  | n + 1, x => trv V v lo n (stv V v (lo + n) x)
theorem stv_comm (V : Nat → Nat) (v j k : Nat) (x : Int32) : stv V v j (stv V v k x) = stv V v k (stv V v j x) := by
  unfold stv
  split <;> split <;> rfl
theorem trv_comm (V : Nat → Nat) (v lo k : Nat) : ∀ n x, trv V v lo n (stv V v k x) = stv V v k (trv V v lo n x)
  | 0, _ => rfl
  | n + 1, x => by rw [trv, trv, stv_comm, trv_comm V v lo k n]
theorem trv_congr {V V' : Nat → Nat} {v lo : Nat} : ∀ n x, (∀ k, lo ≤ k → k < lo + n → V k = V' k) → trv V v lo n x = trv V' v lo n x
  | 0, _, _ => rfl
  | n + 1, x, h => by
    rw [trv, trv, show stv V v (lo + n) x = stv V' v (lo + n) x by rw [stv, stv, h (lo + n) (by omega) (by omega)]]
    exact trv_congr n _ (fun k a b => h k a (by omega))
theorem trv_rng (V : Nat → Nat) (v lo : Nat) : ∀ n x, (∃ t, t ≤ 100 ∧ x = nI t) → ∃ t, t ≤ 100 ∧ trv V v lo n x = nI t
  | 0, _, h => h
  | n + 1, x, h => by
    rw [trv]
    apply trv_rng V v lo n
    unfold stv
    split
    · exact clampT_rng _
    · exact h
-- one page's forecast leaves the model's row
theorem m_ret1_at (g : RT) {k bc : Nat} (hk : k < bc) (hb : bc ≤ 30) (hv : vOf g k < 6) :
    (∀ j, (j < 72 ∨ 222 ≤ j) → j ≠ 8 → j ≠ 12 → j ≠ 14 → (∀ v, v < 6 → j ≠ 26 + 3 * v) → m_ret1 g k bc j = g j) ∧ m_ret1 g k bc 8 = nI (bc - 1) ∧ m_ret1 g k bc 12 = g 12 + 1 ∧ m_ret1 g k bc 14 = g 14 + g (75 + 5 * k) ∧
    (∀ v, v < 6 → m_ret1 g k bc (26 + 3 * v) = stv (vOf g) v k (g (26 + 3 * v))) ∧ (∀ j r, r < 5 → j < bc - 1 → m_ret1 g k bc (72 + 5 * j + r) = g (72 + 5 * (if j < k then j else j + 1) + r)) := by
  rw [m_ret1]
  generalize hV : vOf g k = V at hv
  have e1 : m_addTrust g V (-5) 12 = g 12 := by rw [m_addTrust, pk_un (by omega)]
  have hi : ∀ j, j ≠ 12 → j ≠ 26 + 3 * V → upd (m_addTrust g V (-5)) 12 (m_addTrust g V (-5) 12 + 1) j = g j := fun j a b => by rw [pk_un a, m_addTrust, pk_un b]
  refine ⟨fun j a a8 a12 a14 av => ?_, ?_, ?_, ?_, fun v hv' => ?_, fun j r hr hj => ?_⟩
  · rw [m_drop_lo _ _ _ _ a8 a14 (by omega), hi j a12 (av V hv)]
  · rw [m_drop_at, if_neg (by omega), if_pos rfl]
  · rw [m_drop_lo _ _ _ _ (by omega) (by omega) (by omega), pk_us, e1]
  · rw [m_drop_at, if_neg (by omega), if_neg (by omega), if_pos rfl, hi 14 (by omega) (by omega), hi _ (by omega) (by omega)]
  · rw [m_drop_lo _ _ _ _ (by omega) (by omega) (by omega), pk_un (by omega), m_addTrust, stv, hV]
    by_cases q : V = v
    · subst q; rw [pk_us, if_pos rfl]; rfl
    · rw [pk_un (by omega), if_neg q]
  · rw [m_drop_bk _ k bc j r hk hr hj, hi _ (by omega) (by omega)]
theorem m_retL_at {lo : Nat} : ∀ (n bc : Nat) (g : RT), lo + n ≤ bc → bc ≤ 30 → g 8 = nI bc → (∀ k, k < bc → vOf g k < 6) →
    (∀ j, (j < 72 ∨ 222 ≤ j) → j ≠ 8 → j ≠ 12 → j ≠ 14 → (∀ v, v < 6 → j ≠ 26 + 3 * v) → m_retL lo n bc g j = g j) ∧ m_retL lo n bc g 8 = nI (bc - n) ∧ m_retL lo n bc g 12 = g 12 + nI n ∧ m_retL lo n bc g 14 = g 14 + dsm (fun k => g (75 + 5 * k)) lo n ∧
    (∀ v, v < 6 → m_retL lo n bc g (26 + 3 * v) = trv (vOf g) v lo n (g (26 + 3 * v))) ∧ (∀ j r, r < 5 → j < bc - n → m_retL lo n bc g (72 + 5 * j + r) = g (72 + 5 * (if j < lo then j else j + n) + r))
  | 0, bc, g, _, _, h8, _ => by
    refine ⟨fun _ _ _ _ _ _ => rfl, h8, by rw [m_retL, show nI 0 = 0 from rfl, Int32.add_zero], by rw [m_retL, dsm, Int32.add_zero], fun _ _ => rfl, fun j r _ _ => ?_⟩
    rw [m_retL, show (if j < lo then j else j + 0) = j by split <;> omega]
  | n + 1, bc, g, h1, h2, h8, hV => by
    obtain ⟨a1, a2, a3, a4, a5, a6⟩ := m_ret1_at g (k := lo + n) (show lo + n < bc by omega) h2 (hV _ (by omega))
    have hvo : ∀ k, k < lo + n → vOf (m_ret1 g (lo + n) bc) k = vOf g k := fun k hk => by
      have := a6 k 0 (by decide) (by omega)
      rw [if_pos hk, Nat.add_zero] at this
      rw [vOf, vOf, this]
    have hV' : ∀ k, k < bc - 1 → vOf (m_ret1 g (lo + n) bc) k < 6 := fun k hk => by
      have := a6 k 0 (by decide) hk
      rw [Nat.add_zero, Nat.add_zero] at this
      rw [vOf, this]
      split
      · exact hV _ (by omega)
      · exact hV _ (by omega)
    obtain ⟨b1, b2, b3, b4, b5, b6⟩ := m_retL_at (lo := lo) n (bc - 1) (m_ret1 g (lo + n) bc) (by omega) (by omega) a2 hV'
    rw [m_retL]
    refine ⟨fun j c c8 c12 c14 cv => (b1 j c c8 c12 c14 cv).trans (a1 j c c8 c12 c14 cv), by rw [b2, show bc - 1 - n = bc - (n + 1) by omega], ?_, ?_, fun v hv => ?_, fun j r hr hj => ?_⟩
    · rw [b3, a3, Int32.add_assoc, show (1 : Int32) + nI n = nI (1 + n) from nI_add 1 n, Nat.add_comm]
    · rw [b4, a4, dsm, Int32.add_assoc]
      refine congrArg _ (congrArg _ (dsm_congr n (fun k _ hk => ?_)))
      have := a6 k 3 (by decide) (by omega)
      rw [if_pos (by omega), show 72 + 5 * k + 3 = 75 + 5 * k by omega] at this
      exact this
    · rw [b5 v hv, a5 v hv, trv]
      exact trv_congr n _ (fun k _ hk => hvo k (by omega))
    · rw [b6 j r hr (by omega), a6 _ r hr (by split <;> omega)]
      refine congrArg (fun x => g (72 + 5 * x + r)) ?_
      by_cases q : j < lo
      · rw [if_pos q, if_pos (by omega), if_pos q]
      · rw [if_neg q, if_neg (by omega), if_neg q]; omega
-- and the class's loop
theorem s_tb_at {vc lo : Nat} (S : CT) (V : Nat → Nat) (hvc : vc ≤ 6) : ∀ n, (∀ k, lo ≤ k → k < lo + n → S 10 k = nI (V k) ∧ V k < vc) →
    (∀ r, r ≠ 2 → r ≠ 16 → fo (s_tbBody vc) lo n S r = S r) ∧ (∀ j, j ≠ 4 → j ≠ 6 → fo (s_tbBody vc) lo n S 16 j = S 16 j) ∧ fo (s_tbBody vc) lo n S 16 4 = S 16 4 + nI n ∧ fo (s_tbBody vc) lo n S 16 6 = S 16 6 + dsm (S 13) lo n ∧ ∀ v, fo (s_tbBody vc) lo n S 2 v = trv V v lo n (S 2 v)
  | 0, _ => ⟨fun _ _ _ => rfl, fun _ _ _ => rfl, by rw [fo, show nI 0 = 0 from rfl, Int32.add_zero], by rw [fo, dsm, Int32.add_zero], fun _ => rfl⟩
  | n + 1, h => by
    obtain ⟨a1, a2, a3, a4, a5⟩ := s_tb_at S V hvc n (fun k x y => h k x (by omega))
    rw [fo_snoc]
    generalize fo (s_tbBody vc) lo n S = T at a1 a2 a3 a4 a5
    obtain ⟨e1, e2⟩ := h (lo + n) (by omega) (by omega)
    have hc : s_chg T (T 10 (lo + n)) (-5) vc = us T 2 (V (lo + n)) (dcl (T 2 (V (lo + n)))) := by
      rw [a1 10 (by decide) (by decide), e1, s_chg, if_pos ⟨nI_nneg (by omega), (nI_ltI (by omega) (by omega)).mpr e2⟩, nI_clamp (by omega)]
      rfl
    have hb : s_tbBody vc (lo + n) T = us (us (us T 2 (V (lo + n)) (dcl (T 2 (V (lo + n))))) 16 6 (T 16 6 + T 13 (lo + n))) 16 4 (T 16 4 + 1) := by
      rw [s_tbBody, hc, us_row (by decide), us_row (by decide)]
    rw [hb]
    refine ⟨fun r r2 r16 => ?_, fun j j4 j6 => ?_, ?_, ?_, fun v => ?_⟩
    · rw [us_row r16, us_row r16, us_row r2]; exact a1 r r2 r16
    · rw [us_un (by omega), us_un (by omega), us_row (by decide)]; exact a2 j j4 j6
    · rw [us_at, a3, Int32.add_assoc, nI_1]
    · rw [us_un (by omega), us_at, a4, a1 13 (by decide) (by decide), dsm, Int32.add_assoc, Int32.add_comm (dsm (S 13) lo n)]
    · rw [us_row (by decide), us_row (by decide), trv, trv_comm, ← a5, stv]
      by_cases q : V (lo + n) = v
      · subst q; rw [us_at, if_pos rfl]
      · rw [us_un (by omega), if_neg q]
section RETR
variable {S : CT} {g : RT} {bc vc fc mc : Nat}
theorem XC.refund (h : XC S g bc vc fc mc) (pg : Nat) : s_paidForPage S pg bc = m_refund g pg bc :=
  fo_congr _ _ _ (fun j s _ hj => by rw [h.1.b14 j (by omega)])
theorem m_payBack_at (g : RT) (c : Int32) (j : Nat) (h4 : j ≠ 4) (h16 : j ≠ 16) : m_payBack g c j = g j := by rw [m_payBack, pk_un h16, pk_un h4]
theorem XC.retracts (h : XC S g bc vc fc mc) {pg D : Nat} (hp : 4 * pg < bc) (hd : DY D 6 g bc) : ∃ bc', XC (s_takeBack S pg bc vc) (m_retracts g pg bc) bc' vc fc mc ∧ DY D 6 (m_retracts g pg bc) bc' := by
  have hb := h.b
  have hv := h.v
  have hf := h.f
  have hmI := h.2.1.retracts hp
  have hpay := h.pay (m_refund g pg bc)
  rw [s_takeBack, h.refund, m_retracts] at *
  generalize hn : min bc (4 * pg + 4) - 4 * pg = n at *
  generalize hlo : 4 * pg = lo at *
  have hle : lo + n ≤ bc := by omega
  have hmin : min bc (lo + 4) = lo + n := by omega
  generalize m_refund g pg bc = ref at *
  have hV : ∀ k, k < bc → ∃ w, w < vc ∧ g (72 + 5 * k) = nI w := h.2.1.2.2.2.2.1
  have hvo : ∀ k, k < bc → S 10 k = nI (vOf g k) ∧ vOf g k < vc := fun k hk => by
    obtain ⟨w, w1, w2⟩ := hV k hk
    have : vOf g k = w := by rw [vOf, w2, nI_clamp (by omega)]
    rw [this, h.1.b10 k hk]
    exact ⟨w2, w1⟩
  have pb := fun j a b => m_payBack_at g ref j a b
  have hvp : ∀ k, vOf (m_payBack g ref) k = vOf g k := fun k => by rw [vOf, vOf, pb _ (by omega) (by omega)]
  obtain ⟨a1, a2, a3, a4, a5, a6⟩ := m_retL_at (lo := lo) n bc (m_payBack g ref) hle hb (by rw [pb 8 (by decide) (by decide)]; exact h.2.1.1.1) (fun k hk => by rw [hvp]; have := (hvo k hk).2; omega)
  have a1' : ∀ j, (j < 72 ∨ 222 ≤ j) → j ≠ 8 → j ≠ 12 → j ≠ 14 → j ≠ 4 → j ≠ 16 → (∀ v, v < 6 → j ≠ 26 + 3 * v) → m_retL lo n bc (m_payBack g ref) j = g j := fun j c c8 c12 c14 c4 c16 cv => (a1 j c c8 c12 c14 cv).trans (pb j c4 c16)
  have a6' : ∀ j r, r < 5 → j < bc - n → m_retL lo n bc (m_payBack g ref) (72 + 5 * j + r) = g (72 + 5 * (if j < lo then j else j + n) + r) := fun j r hr hj => (a6 j r hr hj).trans (pb _ (by omega) (by omega))
  have b0 := fun j hj => a6' j 0 (by decide) hj
  have b1 := fun j hj => a6' j 1 (by decide) hj
  have b3 := fun j hj => a6' j 3 (by decide) hj
  have b4 := fun j hj => a6' j 4 (by decide) hj
  simp only [Nat.add_zero] at b0
  have x1 : ∀ x, 72 + 5 * x + 1 = 73 + 5 * x := fun x => by omega
  have x3 : ∀ x, 72 + 5 * x + 3 = 75 + 5 * x := fun x => by omega
  have x4 : ∀ x, 72 + 5 * x + 4 = 76 + 5 * x := fun x => by omega
  simp only [x1] at b1
  simp only [x3] at b3
  simp only [x4] at b4
  have hjj : ∀ j, j < bc - n → (if j < lo then j else j + n) < bc := fun j hj => by split <;> omega
  have tr : ∀ v, v < 6 → m_retL lo n bc (m_payBack g ref) (26 + 3 * v) = trv (vOf g) v lo n (g (26 + 3 * v)) := fun v hv => by
    rw [a5 v hv, pb _ (by omega) (by omega)]
    exact trv_congr n _ (fun k _ _ => hvp k)
  -- the class
  have hT : s_tbLoop S pg bc vc = fo (s_tbBody vc) lo n S := by rw [s_tbLoop, hlo, show min bc (lo + 4) - lo = n from hn]
  obtain ⟨c1, c2, c3, c4, c5⟩ := s_tb_at (lo := lo) S (vOf g) hv n (fun k _ hk => hvo k (by omega))
  rw [hT, hmin]
  generalize fo (s_tbBody vc) lo n S = T at c1 c2 c3 c4 c5
  have row : ∀ r, r < 10 ∨ r = 15 → s_payBack (s_remove T lo (lo + n) bc) ref r = T r := by
    intro r hr
    rw [s_payBack, us_row (by omega), us_row (by omega), s_remove, us_row (by omega), ur_row (by omega), ur_row (by omega), ur_row (by omega), ur_row (by omega), ur_row (by omega)]
  have rm16 : ∀ j, s_remove T lo (lo + n) bc 16 j = if j = 12 then nI (bc - n) else T 16 j := by
    intro j
    rw [s_remove]
    by_cases q : j = 12
    · subst q; rw [us_at, if_pos rfl, show lo + (bc - (lo + n)) = bc - n by omega]
    · rw [us_un (by omega), ur_row (by decide), ur_row (by decide), ur_row (by decide), ur_row (by decide), ur_row (by decide), if_neg q]
  have r16 : ∀ j, s_payBack (s_remove T lo (lo + n) bc) ref 16 j = if j = 8 then T 16 8 + ref else if j = 1 then T 16 1 - ref else if j = 12 then nI (bc - n) else T 16 j := by
    intro j
    rw [s_payBack, rm16, rm16, if_neg (by decide), if_neg (by decide)]
    by_cases q8 : j = 8
    · subst q8; rw [us_at, if_pos rfl]
    · rw [us_un (by omega), if_neg q8]
      by_cases q1 : j = 1
      · subst q1; rw [us_at, if_pos rfl]
      · rw [us_un (by omega), if_neg q1, rm16]
  have bk : ∀ r, 10 ≤ r → r < 15 → ∀ j, j < bc - n → s_payBack (s_remove T lo (lo + n) bc) ref r j = S r (if j < lo then j else j + n) := by
    intro r h1 h2 j hj
    have cp : ∀ f : RT, va_cpy f f (lo + n) lo (bc - (lo + n)) j = f (if j < lo then j else j + n) := by
      intro f
      rw [va_cpy]
      by_cases q : j < lo
      · rw [if_neg (by omega), if_pos q]
      · rw [if_pos (by omega), if_neg q, show lo + n + (j - lo) = j + n by omega]
    rw [s_payBack, us_row (by omega), us_row (by omega), s_remove, us_row (by omega), ← c1 r (by omega) (by omega)]
    rcases (show r = 10 ∨ r = 11 ∨ r = 12 ∨ r = 13 ∨ r = 14 by omega) with rfl | rfl | rfl | rfl | rfl
    · rw [ur_row (by decide), ur_row (by decide), ur_row (by decide), ur_row (by decide), ur_at, cp]
    · rw [ur_row (by decide), ur_row (by decide), ur_row (by decide), ur_at, cp]
    · rw [ur_row (by decide), ur_row (by decide), ur_at, cp]
    · rw [ur_row (by decide), ur_at, cp]
    · rw [ur_at, cp]
  refine ⟨bc - n, ⟨⟨fun r j ho q0 q3 => ?_, fun i hi' => ?_, fun f hf' => ?_, fun m hm => ?_⟩, hmI, fun i hi' => ?_, fun f hf' => ?_, fun j hj => ?_, fun i j hij hj => ?_⟩, ?_⟩
  · rcases ho with ⟨rfl, hj⟩ | ⟨hr, hj⟩ | ⟨hr, hj⟩ | ⟨hr, hr', hj⟩ | ⟨hr, hr', hj⟩
    · rw [r16, show fw 16 j = sx j from rfl]
      by_cases q8 : j = 8
      · subst q8; rw [if_pos rfl]; show _ = m_retL lo n bc (m_payBack g ref) 16
        rw [a1 16 (by omega) (by omega) (by omega) (by omega) (fun v _ => by omega), m_payBack, pk_us, c2 8 (by decide) (by decide), h.1.c16 8 (by decide)]; rfl
      · rw [if_neg q8]
        by_cases q1 : j = 1
        · subst q1; rw [if_pos rfl]; show _ = m_retL lo n bc (m_payBack g ref) 4
          rw [a1 4 (by omega) (by omega) (by omega) (by omega) (fun v _ => by omega), m_payBack, pk_un (by decide), pk_us, c2 1 (by decide) (by decide), h.1.c16 1 (by decide)]; rfl
        · rw [if_neg q1]
          by_cases q12 : j = 12
          · subst q12; rw [if_pos rfl]; show _ = m_retL lo n bc (m_payBack g ref) 8; rw [a2]
          · rw [if_neg q12]
            by_cases q4 : j = 4
            · subst q4; show _ = m_retL lo n bc (m_payBack g ref) 12; rw [a3, pb 12 (by decide) (by decide), c3, h.1.c16 4 (by decide)]; rfl
            · by_cases q6 : j = 6
              · subst q6; show _ = m_retL lo n bc (m_payBack g ref) 14
                rw [a4, pb 14 (by decide) (by decide), c4, h.1.c16 6 (by decide)]
                show g 14 + _ = g 14 + _
                refine congrArg _ (dsm_congr n (fun k _ hk => ?_))
                show S 13 k = m_payBack g ref (75 + 5 * k)
                rw [pb _ (by omega) (by omega)]
                exact h.1.b13 k (by omega)
              · rw [c2 j q4 q6, h.1.c16 j hj]
                have this : sx j < 26 ∧ sx j ≠ 8 ∧ sx j ≠ 12 ∧ sx j ≠ 14 ∧ sx j ≠ 4 ∧ sx j ≠ 16 := by
                  rcases (show j = 0 ∨ j = 2 ∨ j = 3 ∨ j = 5 ∨ j = 7 ∨ j = 9 ∨ j = 10 ∨ j = 11 ∨ j = 13 by omega) with rfl | rfl | rfl | rfl | rfl | rfl | rfl | rfl | rfl <;> decide
                rw [a1' _ (by omega) (by omega) (by omega) (by omega) (by omega) (by omega) (fun v _ => by omega)]
    · rcases hr with rfl | rfl
      · rw [row 8 (by decide), c1 8 (by decide) (by decide), h.1.odds j hj, show fw 8 j = 1 + j from rfl, a1' _ (by omega) (by omega) (by omega) (by omega) (by omega) (by omega) (fun v _ => by omega)]
      · rw [row 9 (by decide), c1 9 (by decide) (by decide), h.1.drw j hj, show fw 9 j = 17 + j from rfl, a1' _ (by omega) (by omega) (by omega) (by omega) (by omega) (by omega) (fun v _ => by omega)]
    · rw [row r (by omega)]
      rcases (show r = 1 ∨ r = 2 by omega) with rfl | rfl
      · rw [c1 1 (by decide) (by decide), h.1.v1 j hj, fw_1, a1' _ (by omega) (by omega) (by omega) (by omega) (by omega) (by omega) (fun v _ => by omega)]
      · rw [c5, h.1.v2 j hj, fw_2, tr j (by omega)]
    · rw [row r (by omega), c1 r (by omega) (by omega), h.1.1 r j (by unfold okc; omega) q0 q3]
      have e : fw r j = 39 + 5 * j + r := by rw [fw, if_neg (by omega), if_neg (by omega), if_neg (by omega), if_neg (by omega), if_pos hr']
      rw [e, a1' _ (by omega) (by omega) (by omega) (by omega) (by omega) (by omega) (fun v _ => by omega)]
    · rw [bk r hr hr' j hj]
      have e : ∀ j, fw r j = 72 + 5 * j + (r - 10) := fun j => by rw [fw, if_neg (by omega), if_neg (by omega), if_neg (by omega), if_neg (by omega), if_neg (by omega)]; omega
      rw [e, a6' j _ (by omega) hj, ← e]
      exact h.1.1 r _ (by have := hjj j hj; unfold okc; omega) q0 q3
  · rw [row 0 (by decide), c1 0 (by decide) (by decide), a1' _ (by omega) (by omega) (by omega) (by omega) (by omega) (by omega) (fun v _ => by omega)]; exact h.1.2.1 i hi'
  · rw [row 3 (by decide), c1 3 (by decide) (by decide), a1' _ (by omega) (by omega) (by omega) (by omega) (by omega) (by omega) (fun v _ => by omega)]; exact h.1.2.2.1 f hf'
  · rw [row 15 (by decide), c1 15 (by decide) (by decide), a1' _ (by omega) (by omega) (by omega) (by omega) (by omega) (by omega) (fun v _ => by omega), a1' _ (by omega) (by omega) (by omega) (by omega) (by omega) (by omega) (fun v _ => by omega)]; exact h.1.2.2.2 m hm
  · rw [a1' _ (by omega) (by omega) (by omega) (by omega) (by omega) (by omega) (fun v _ => by omega), tr i (by omega)]
    exact ⟨(h.2.2.1 i hi').1, trv_rng _ _ _ _ _ (h.2.2.1 i hi').2⟩
  · rw [a1' _ (by omega) (by omega) (by omega) (by omega) (by omega) (by omega) (fun v _ => by omega), a1' _ (by omega) (by omega) (by omega) (by omega) (by omega) (by omega) (fun v _ => by omega)]; exact h.2.2.2.1 f hf'
  · rw [b3 j hj, b4 j hj]; exact h.2.2.2.2.1 _ (hjj j hj)
  · rw [b0 i (by omega), b0 j hj, b1 i (by omega), b1 j hj]
    exact h.2.2.2.2.2 _ _ (by split <;> split <;> omega) (hjj j hj)
  · obtain ⟨d, d1, d2, d3⟩ := hd
    refine ⟨d, d1, by rw [a1' _ (by omega) (by omega) (by omega) (by omega) (by omega) (by omega) (fun v _ => by omega)]; exact d2, fun j hj => ?_⟩
    rw [b0 j hj, b1 j hj]
    exact d3 _ (hjj j hj)
end RETR

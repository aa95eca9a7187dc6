/-- a name's code: 8 bits a letter (letters from 1 to 26, behind 96) -/
def k8 : List Nat → Nat → Nat
  | [], a => a
  | c :: L, a => k8 L (a * 256 + (96 + c))
/-- a name's code: base 27, n places -/
def k27 : Nat → List Nat → Nat → Nat
  | 0, _, a => a
  | n + 1, [], a => k27 n [] (a * 27)
  | n + 1, c :: L, a => k27 n L (a * 27 + c)
/-- the two codes of one name -/
def NR (z x : Int32) : Prop := ∃ L : List Nat, 1 ≤ L.length ∧ L.length ≤ 4 ∧ (∀ c, c ∈ L → 1 ≤ c ∧ c ≤ 26) ∧ z = nI (k8 L 0) ∧ x = nI (k27 4 L 0)
/-- where the model keeps a number of the State -/
def sx (j : Nat) : Nat := [5, 4, 10, 11, 12, 13, 14, 15, 16, 6, 7, 0, 8, 9].getD j 0
/-- what holds of a model's row beside mI -/
def G2 (D : Nat) (g : RT) : Prop :=
  (∃ d, d ≤ D ∧ g 5 = nI d ∧ ∀ k, k < m_bc g → ∃ e, d < e ∧ e ≤ d + 30 ∧ g (73 + 5 * k) = nI e) ∧
  (∀ i, i < m_vc g → (∃ p, p ≤ 99 ∧ g (25 + 3 * i) = nI p) ∧ ∃ t, t ≤ 100 ∧ g (26 + 3 * i) = nI t) ∧
  (∀ f, f < m_fc g → (∃ s, s ≤ 99 ∧ g (45 + 5 * f) = nI s) ∧ ∃ p, p ≤ 20 ∧ g (46 + 5 * f) = nI p) ∧
  (∀ k, k < m_bc g → ∃ s p, s ≤ 99 ∧ p ≤ 20 * s ∧ g (75 + 5 * k) = nI s ∧ g (76 + 5 * k) = nI p) ∧
  (∀ j k, j < k → k < m_bc g → ¬ (g (72 + 5 * j) = g (72 + 5 * k) ∧ g (73 + 5 * j) = g (73 + 5 * k)))
/-- a State and a row that say the same -/
def SQ (S : CT) (g : RT) : Prop :=
  (∀ j, j < 14 → S 16 j = g (sx j)) ∧
  (∀ i, i < 3 → S 8 i = g (1 + i) ∧ S 9 i = g (17 + i)) ∧
  (∀ i, i < m_vc g → NR (S 0 i) (g (24 + 3 * i)) ∧ S 1 i = g (25 + 3 * i) ∧ S 2 i = g (26 + 3 * i)) ∧
  (∀ f, f < m_fc g → NR (S 3 f) (g (42 + 5 * f)) ∧ S 4 f = g (43 + 5 * f) ∧ S 5 f = g (44 + 5 * f) ∧ S 6 f = g (45 + 5 * f) ∧ S 7 f = g (46 + 5 * f)) ∧
  (∀ k, k < m_bc g → S 10 k = g (72 + 5 * k) ∧ S 11 k = g (73 + 5 * k) ∧ S 12 k = g (74 + 5 * k) ∧ S 13 k = g (75 + 5 * k) ∧ S 14 k = g (76 + 5 * k)) ∧
  (∀ k, k < m_mc g → S 15 k = 10 * g (222 + 2 * k) + g (223 + 2 * k))
def SR (D : Nat) (S : CT) (g : RT) : Prop := SQ S g ∧ GI g ∧ G2 D g
/-- the day's bound behind n calls -/
def dB (n : Nat) : Nat := 200000 + 200 * n
/-- the office and the model behind n calls -/
def REL (n : Nat) (z : OS) (M : CT) : Prop :=
  SR (dB n) (zS z) (M 0) ∧
  (∃ un u0, M 8 0 = nI un ∧ un ≤ 8 ∧ M 8 1 = nI u0 ∧ u0 ≤ 7 ∧ zk z = un ∧ zn z = (u0 + un) % 8 ∧ ∀ i, i < un → SR (dB n) (zT z ((u0 + i) % 8)) (fun j => M 3 (242 * ((u0 + i) % 8) + j))) ∧
  (∀ w, w < 2 → zf z w = M 5 w ∧ (¬ M 5 w = 0 → SR (dB n) (zL z w) (fun j => M 4 (242 * w + j)))) ∧
  (∃ il, il ≤ 600 ∧ (zi z).2 = il ∧ M 8 3 = nI il ∧ ∀ j, j < il → (zi z).1 j &&& 255 = M 6 j) ∧
  (∃ ol, ol ≤ 80 ∧ (zo z).2 = ol ∧ M 8 11 = nI ol ∧ ∀ j, j < ol → (zo z).1 j &&& 255 = M 7 j) ∧
  zc z = M 8 9 ∧ zp z = M 8 10
theorem mI.bc {g : RT} {bc vc fc mc : Nat} (h : mI g bc vc fc mc) : m_bc g = bc := by have := h.1; rw [m_bc, this.1]; exact nI_clamp (by omega)
theorem mI.vc {g : RT} {bc vc fc mc : Nat} (h : mI g bc vc fc mc) : m_vc g = vc := by have := h.2.1; rw [m_vc, this.1]; exact nI_clamp (by omega)
theorem mI.fc {g : RT} {bc vc fc mc : Nat} (h : mI g bc vc fc mc) : m_fc g = fc := by have := h.2.2.1; rw [m_fc, this.1]; exact nI_clamp (by omega)
theorem mI.mc {g : RT} {bc vc fc mc : Nat} (h : mI g bc vc fc mc) : m_mc g = mc := by have := h.2.2.2.1; rw [m_mc, this.1]; exact nI_clamp (by omega)
theorem SQ.bc {S : CT} {g : RT} (h : SQ S g) : bcO S = m_bc g := congrArg Int32.toNatClampNeg (h.1 12 (by decide))
theorem SQ.vc {S : CT} {g : RT} (h : SQ S g) : vcO S = m_vc g := congrArg Int32.toNatClampNeg (h.1 9 (by decide))
theorem SQ.fc {S : CT} {g : RT} (h : SQ S g) : fcO S = m_fc g := congrArg Int32.toNatClampNeg (h.1 10 (by decide))
theorem SQ.mc {S : CT} {g : RT} (h : SQ S g) : mcO S = m_mc g := congrArg Int32.toNatClampNeg (h.1 13 (by decide))
theorem SR.ci {D : Nat} {S : CT} {g : RT} (h : SR D S g) : CI S := by
  obtain ⟨hq, hG, -⟩ := h
  have h1 := hG.1
  have h2 := hG.2.1
  have h3 := hG.2.2.1
  have h4 := hG.2.2.2.1
  exact ⟨⟨by rw [hq.bc]; exact (hq.1 12 (by decide)).trans h1.1, by rw [hq.bc]; exact h1.2⟩, ⟨by rw [hq.vc]; exact (hq.1 9 (by decide)).trans h2.1, by rw [hq.vc]; exact h2.2⟩, ⟨by rw [hq.fc]; exact (hq.1 10 (by decide)).trans h3.1, by rw [hq.fc]; exact h3.2⟩, ⟨by rw [hq.mc]; exact (hq.1 13 (by decide)).trans h4.1, by rw [hq.mc]; exact h4.2⟩⟩
theorem SR.mono {D E : Nat} {S : CT} {g : RT} (h : SR D S g) (hE : D ≤ E) : SR E S g := by
  obtain ⟨hq, hG, ⟨d, hd, h1⟩, h2⟩ := h
  exact ⟨hq, hG, ⟨d, by omega, h1⟩, h2⟩
section RELS
variable {n : Nat} {z : OS} {M : CT}
theorem REL.ci (h : REL n z M) : CI (zS z) := h.1.ci
theorem REL.gi (h : REL n z M) : mI (M 0) (m_bc (M 0)) (m_vc (M 0)) (m_fc (M 0)) (m_mc (M 0)) := h.1.2.1
theorem REL.bc (h : REL n z M) : M 0 8 = nI (m_bc (M 0)) ∧ m_bc (M 0) ≤ 30 := h.gi.1
theorem REL.vc (h : REL n z M) : M 0 6 = nI (m_vc (M 0)) ∧ m_vc (M 0) ≤ 6 := h.gi.2.1
theorem REL.fc (h : REL n z M) : M 0 7 = nI (m_fc (M 0)) ∧ m_fc (M 0) ≤ 6 := h.gi.2.2.1
theorem REL.mc (h : REL n z M) : M 0 9 = nI (m_mc (M 0)) ∧ m_mc (M 0) ≤ 10 := h.gi.2.2.2.1
theorem REL.un (h : REL n z M) : M 8 0 = nI (cl (M 8 0)) ∧ cl (M 8 0) ≤ 8 := by
  obtain ⟨-, ⟨un, u0, h1, h2, -⟩, -⟩ := h
  have e : cl (M 8 0) = un := by rw [h1]; exact nI_clamp (by omega)
  rw [e]; exact ⟨h1, h2⟩
theorem REL.u0 (h : REL n z M) : M 8 1 = nI (cl (M 8 1)) ∧ cl (M 8 1) ≤ 7 := by
  obtain ⟨-, ⟨un, u0, -, -, h1, h2, -⟩, -⟩ := h
  have e : cl (M 8 1) = u0 := by rw [h1]; exact nI_clamp (by omega)
  rw [e]; exact ⟨h1, h2⟩
theorem REL.il (h : REL n z M) : M 8 3 = nI (cl (M 8 3)) ∧ cl (M 8 3) ≤ 600 := by
  obtain ⟨-, -, -, ⟨il, h1, -, h2, -⟩, -⟩ := h
  have e : cl (M 8 3) = il := by rw [h2]; exact nI_clamp (by omega)
  rw [e]; exact ⟨h2, h1⟩
theorem REL.ol (h : REL n z M) : M 8 11 = nI (cl (M 8 11)) ∧ cl (M 8 11) ≤ 80 := by
  obtain ⟨-, -, -, -, ⟨ol, h1, -, h2, -⟩, -⟩ := h
  have e : cl (M 8 11) = ol := by rw [h2]; exact nI_clamp (by omega)
  rw [e]; exact ⟨h2, h1⟩
theorem REL.hn (h : REL n z M) : zn z < 8 := by
  obtain ⟨-, ⟨un, u0, -, -, -, -, -, h1, -⟩, -⟩ := h
  rw [h1]; exact Nat.mod_lt _ (by decide)
theorem REL.hk (h : REL n z M) : zk z ≤ 8 := by
  obtain ⟨-, ⟨un, u0, -, h2, -, -, h1, -⟩, -⟩ := h
  rw [h1]; exact h2
theorem REL.qi (h : REL n z M) : (zi z).2 ≤ 600 := by
  obtain ⟨-, -, -, ⟨il, h1, h2, -⟩, -⟩ := h
  rw [h2]; exact h1
theorem REL.qo (h : REL n z M) : (zo z).2 ≤ 600 := by
  obtain ⟨-, -, -, -, ⟨ol, h1, h2, -⟩, -⟩ := h
  rw [h2]; omega
theorem REL.fi (h : REL n z M) : ∀ j, j < cl (M 8 3) → ¬ M 6 j = -1 := by
  have hl := h.il.1
  obtain ⟨-, -, -, ⟨il, h1, -, h2, h3⟩, -⟩ := h
  have e : cl (M 8 3) = il := by rw [h2]; exact nI_clamp (by omega)
  intro j hj
  obtain ⟨w, hw, e2⟩ := and255 ((zi z).1 j)
  rw [← h3 j (by omega), e2]
  exact nI_ne_m1 (by omega)
theorem REL.dd (h : REL n z M) (hn : n ≤ 600) : M 0 5 = nI (cl (M 0 5)) ∧ cl (M 0 5) ≤ 1000000 := by
  obtain ⟨d, h1, h2, -⟩ := h.1.2.2.1
  have e : cl (M 0 5) = d := by rw [h2]; exact nI_clamp (by unfold dB at h1; omega)
  rw [e]; exact ⟨h2, by unfold dB at h1; omega⟩
theorem REL.bk (h : REL n z M) (hn : n ≤ 600) : BK (zS z) := by
  intro i hi
  obtain ⟨hq, hG, ⟨d, h1, -, h3⟩, -⟩ := h.1
  rw [hq.bc] at hi
  obtain ⟨w, w1, w2⟩ := hG.2.2.2.2.1 i hi
  have hv := hG.2.1.2
  obtain ⟨e, e1, e2, e3⟩ := h3 i hi
  have hk := hq.2.2.2.2.1 i hi
  unfold dB at h1
  exact ⟨⟨w, by omega, hk.1.trans w2⟩, ⟨e, by omega, hk.2.1.trans e3⟩⟩
theorem REL.os (h : REL n z M) : ¬ m_allOdds (M 0) = 0 := by
  obtain ⟨a, b, c, h1, h2, h3, h4, e1, e2, e3⟩ := h.gi.2.2.2.2.2.2.1
  rw [m_allOdds, e1, e2, e3, nI_add, nI_add]
  intro e
  have := congrArg Int32.toInt e
  rw [nI_toInt (by omega), show (0 : Int32).toInt = 0 by decide] at this
  omega
end RELS

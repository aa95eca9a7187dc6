/-- a datum that has an encoding that is no NaN -/
def fp_ok (f : FP.Core.Fmt) : FP.Core.Datum → Prop
  | .nan => False
  | .inf _ => True
  | .fin _ c q => c < 2 ^ f.p ∧ q ≤ f.qmax
theorem fp_ok_rr (f : FP.Core.Fmt) (hp : f.p = 53 ∨ f.p = 24) (hm : f.qmin ≤ f.qmax) (s : Bool) (a b : Nat) (e : Int) : fp_ok f (FP.Core.roundRatio f s a b e) := by
  have htl : f.tails < 2 ^ f.p := by
    unfold FP.Core.Fmt.tails
    rcases hp with hp | hp <;> rw [hp] <;> decide
  unfold FP.Core.roundRatio
  split
  · exact ⟨Nat.two_pow_pos _, hm⟩
  · unfold FP.Core.roundAt FP.Core.settle FP.Core.bound
    split
    · split
      · rename_i h1 h2; exact ⟨h1, h2⟩
      · exact trivial
    · split
      · rename_i h1 h2; exact ⟨htl, h2⟩
      · exact trivial
theorem fp_ok_round (f : FP.Core.Fmt) (hp : f.p = 53 ∨ f.p = 24) (hm : f.qmin ≤ f.qmax) (d : FP.Core.Datum) (h : d ≠ .nan) : fp_ok f (FP.Core.round f d) := by
  cases d with
  | nan => exact absurd rfl h
  | inf s => exact trivial
  | fin s c q => exact fp_ok_rr f hp hm s c 1 q
theorem fp_s (s : Bool) : s.toNat ≤ 1 := by cases s <;> decide
theorem fp_e64 (d : FP.Core.Datum) (h : fp_ok FP.Core.b64 d) : ∃ s e t, FP.Core.encode FP.Core.b64 d = (Bool.toNat s * 2048 + e) * 4503599627370496 + t ∧ ((e < 2047 ∧ t < 4503599627370496) ∨ (e = 2047 ∧ t = 0)) := by
  have e1 : FP.Core.b64.tails = 4503599627370496 := by decide
  have e2 : FP.Core.b64.exps = 2048 := by decide
  have e3 : FP.Core.b64.qmax = 971 := by decide
  have e4 : FP.Core.b64.qmin = -1074 := by decide
  have e5 : 2 ^ FP.Core.b64.p = 9007199254740992 := by decide
  cases d with
  | nan => exact h.elim
  | inf s => exact ⟨s, 2047, 0, by show FP.Core.assemble _ _ _ _ = _; unfold FP.Core.assemble; rw [e1, e2], Or.inr ⟨rfl, rfl⟩⟩
  | fin s c q =>
    obtain ⟨h1, h2⟩ := h
    rw [e5] at h1
    rw [e3] at h2
    show ∃ s' e t, (if c < FP.Core.b64.tails then FP.Core.assemble _ s 0 c else FP.Core.assemble _ s ((q - FP.Core.b64.qmin).toNat + 1) (c - FP.Core.b64.tails)) = _ ∧ _
    rw [e1, e4]
    by_cases hc : c < 4503599627370496
    · rw [if_pos hc]
      exact ⟨s, 0, c, by unfold FP.Core.assemble; rw [e1, e2], Or.inl ⟨by omega, hc⟩⟩
    · rw [if_neg hc]
      exact ⟨s, (q - -1074).toNat + 1, c - 4503599627370496, by unfold FP.Core.assemble; rw [e1, e2], Or.inl ⟨by omega, by omega⟩⟩
theorem fp_e32 (d : FP.Core.Datum) (h : fp_ok FP.Core.b32 d) : ∃ s e t, FP.Core.encode FP.Core.b32 d = (Bool.toNat s * 256 + e) * 8388608 + t ∧ ((e < 255 ∧ t < 8388608) ∨ (e = 255 ∧ t = 0)) := by
  have e1 : FP.Core.b32.tails = 8388608 := by decide
  have e2 : FP.Core.b32.exps = 256 := by decide
  have e3 : FP.Core.b32.qmax = 104 := by decide
  have e4 : FP.Core.b32.qmin = -149 := by decide
  have e5 : 2 ^ FP.Core.b32.p = 16777216 := by decide
  cases d with
  | nan => exact h.elim
  | inf s => exact ⟨s, 255, 0, by show FP.Core.assemble _ _ _ _ = _; unfold FP.Core.assemble; rw [e1, e2], Or.inr ⟨rfl, rfl⟩⟩
  | fin s c q =>
    obtain ⟨h1, h2⟩ := h
    rw [e5] at h1
    rw [e3] at h2
    show ∃ s' e t, (if c < FP.Core.b32.tails then FP.Core.assemble _ s 0 c else FP.Core.assemble _ s ((q - FP.Core.b32.qmin).toNat + 1) (c - FP.Core.b32.tails)) = _ ∧ _
    rw [e1, e4]
    by_cases hc : c < 8388608
    · rw [if_pos hc]
      exact ⟨s, 0, c, by unfold FP.Core.assemble; rw [e1, e2], Or.inl ⟨by omega, hc⟩⟩
    · rw [if_neg hc]
      exact ⟨s, (q - -149).toNat + 1, c - 8388608, by unfold FP.Core.assemble; rw [e1, e2], Or.inl ⟨by omega, by omega⟩⟩
theorem fp_n64 (d : FP.Core.Datum) (h : fp_ok FP.Core.b64 d) : vf_n64 (UInt64.ofNat (FP.Core.encode FP.Core.b64 d)) := by
  obtain ⟨s, e, t, he, hb⟩ := fp_e64 d h
  have hs := fp_s s
  unfold vf_n64
  rw [he, UInt64.le_iff_toNat_le, UInt64.toNat_and, UInt64.toNat_ofNat_of_lt' (by show _ < 18446744073709551616; omega)]
  rw [show (0x7fffffffffffffff : UInt64).toNat = 2 ^ 63 - 1 by decide, Nat.and_two_pow_sub_one_eq_mod, show (0x7ff0000000000000 : UInt64).toNat = 9218868437227405312 by decide]
  omega
theorem fp_n32 (d : FP.Core.Datum) (h : fp_ok FP.Core.b32 d) : vf_n32 (UInt32.ofNat (FP.Core.encode FP.Core.b32 d)) := by
  obtain ⟨s, e, t, he, hb⟩ := fp_e32 d h
  have hs := fp_s s
  unfold vf_n32
  rw [he, UInt32.le_iff_toNat_le, UInt32.toNat_and, UInt32.toNat_ofNat_of_lt' (by show _ < 4294967296; omega)]
  rw [show (0x7fffffff : UInt32).toNat = 2 ^ 31 - 1 by decide, Nat.and_two_pow_sub_one_eq_mod, show (0x7f800000 : UInt32).toNat = 2139095040 by decide]
  omega
/-- a float out of such a datum is decoded as no NaN -/
theorem fp_d32 (d : FP.Core.Datum) (h : fp_ok FP.Core.b32 d) : FP.Core.decode FP.Core.b32 (UInt32.ofNat (FP.Core.encode FP.Core.b32 d)).toNat ≠ .nan := by
  obtain ⟨s, e, t, he, hb⟩ := fp_e32 d h
  have hs := fp_s s
  rw [he, UInt32.toNat_ofNat_of_lt' (by show _ < 4294967296; omega)]
  have eE : FP.Core.fieldE FP.Core.b32 ((Bool.toNat s * 256 + e) * 8388608 + t) = e := by
    show ((Bool.toNat s * 256 + e) * 8388608 + t) / 8388608 % 256 = e
    omega
  have eT : FP.Core.fieldT FP.Core.b32 ((Bool.toNat s * 256 + e) * 8388608 + t) = t := by
    show ((Bool.toNat s * 256 + e) * 8388608 + t) % 8388608 = t
    omega
  unfold FP.Core.decode
  rw [eE, eT, show FP.Core.b32.exps - 1 = 255 by decide]
  split
  · rw [if_pos (by omega)]; exact FP.Core.Datum.noConfusion
  · split <;> exact FP.Core.Datum.noConfusion
/-- a number other than zero -/
def fp_nz (f : FP.Core.Fmt) : FP.Core.Datum → Prop
  | .nan => False
  | .inf _ => False
  | .fin _ c q => f.tails ≤ c ∧ c < 2 ^ f.p ∧ -100 ≤ q ∧ q ≤ 40
theorem fp_int {f : FP.Core.Fmt} (hp : f.p = 53 ∨ f.p = 24) (hq : f.qmin ≤ -100) (hm : 100 ≤ f.qmax) {z : Int} (h : z ≠ 0) (hz : z.natAbs < 2 ^ 40) : fp_nz f (FP.Core.round f (FP.Core.ofInt z)) := by
  show fp_nz f (FP.Core.roundRatio f _ z.natAbs 1 0)
  have hn : z.natAbs ≠ 0 := by omega
  generalize z.natAbs = n at hn hz ⊢
  rw [FP.Core.roundRatio, if_neg hn]
  have hlog : n.log2 < 40 := (Nat.log2_lt hn).mpr hz
  have hlo : 2 ^ n.log2 ≤ n := Nat.log2_self_le hn
  have hhi : n < 2 ^ (n.log2 + 1) := Nat.lt_log2_self
  have hl : FP.Core.leading n 1 = n.log2 := by
    unfold FP.Core.leading
    have e1 : Nat.log2 1 = 0 := by decide
    simp only [e1, Int.natCast_zero, Int.sub_zero, Int.toNat_natCast]
    rw [if_pos]
    have : (-(n.log2 : Int)).toNat = 0 := by omega
    rw [this]
    omega
  have hqq : FP.Core.quantum f n 1 0 = (n.log2 : Int) - ((f.p : Int) - 1) := by
    unfold FP.Core.quantum
    rw [hl]
    rcases hp with hp | hp <;> rw [hp] <;> omega
  unfold FP.Core.roundAt
  rw [hqq]
  generalize hQ : (n.log2 : Int) - ((f.p : Int) - 1) = Q
  have hp1 : 1 ≤ f.p := by omega
  have htl : f.tails = 2 ^ (f.p - 1) := rfl
  have hpp : 2 ^ f.p = 2 * 2 ^ (f.p - 1) := by
    rw [← Nat.pow_succ', show (f.p - 1).succ = f.p by omega]
  have key : 2 ^ (f.p - 1) ≤ FP.Core.nearest (FP.Core.unitsNum n 0 Q) (FP.Core.unitsDen 1 0 Q) ∧ FP.Core.nearest (FP.Core.unitsNum n 0 Q) (FP.Core.unitsDen 1 0 Q) ≤ 2 ^ f.p := by
    unfold FP.Core.unitsNum FP.Core.unitsDen
    rw [Int.sub_zero, Nat.one_mul, Int.zero_sub]
    rcases Int.le_total Q 0 with hs | hs
    · obtain ⟨w, hw⟩ : ∃ w : Nat, (-Q).toNat = w ∧ n.log2 + w = f.p - 1 := ⟨(-Q).toNat, rfl, by omega⟩
      rw [hw.1, show Q.toNat = 0 by omega, Nat.pow_zero]
      have h1 : 2 ^ (f.p - 1) = 2 ^ n.log2 * 2 ^ w := by rw [← Nat.pow_add, hw.2]
      have h2 : 2 ^ n.log2 * 2 ^ w ≤ n * 2 ^ w := Nat.mul_le_mul_right _ hlo
      have h3 : n * 2 ^ w < 2 ^ (n.log2 + 1) * 2 ^ w := Nat.mul_lt_mul_of_pos_right hhi (Nat.two_pow_pos _)
      have h4 : 2 ^ (n.log2 + 1) * 2 ^ w = 2 * (2 ^ n.log2 * 2 ^ w) := by rw [Nat.pow_succ, Nat.mul_comm (2 ^ n.log2) 2, Nat.mul_assoc]
      have h5 : FP.Core.nearest (n * 2 ^ w) 1 = n * 2 ^ w := by
        unfold FP.Core.nearest
        rw [Nat.mod_one, if_pos (by decide), Nat.div_one]
      rw [h5]
      omega
    · obtain ⟨w, hw⟩ : ∃ w : Nat, Q.toNat = w ∧ n.log2 = f.p - 1 + w := ⟨Q.toNat, rfl, by omega⟩
      rw [hw.1, show (-Q).toNat = 0 by omega, Nat.pow_zero, Nat.mul_one]
      have hwp := Nat.two_pow_pos w
      have h1 : 2 ^ n.log2 = 2 ^ (f.p - 1) * 2 ^ w := by rw [← Nat.pow_add, ← hw.2]
      have h2 : 2 ^ (n.log2 + 1) = 2 ^ f.p * 2 ^ w := by rw [Nat.pow_succ, h1, hpp, Nat.mul_comm _ 2, Nat.mul_assoc]
      have h3 : 2 ^ (f.p - 1) ≤ n / 2 ^ w := (Nat.le_div_iff_mul_le hwp).mpr (by rw [← h1]; exact hlo)
      have h4 : n / 2 ^ w < 2 ^ f.p := (Nat.div_lt_iff_lt_mul hwp).mpr (by rw [← h2]; exact hhi)
      unfold FP.Core.nearest
      split
      · omega
      · split <;> omega
  generalize FP.Core.nearest (FP.Core.unitsNum n 0 Q) (FP.Core.unitsDen 1 0 Q) = u at key
  have hQ2 : -100 ≤ Q ∧ Q ≤ 20 := by rcases hp with hp | hp <;> rw [hp] at hQ <;> omega
  unfold FP.Core.settle
  split
  · rename_i hu
    unfold FP.Core.bound
    rw [if_pos (by omega)]
    exact ⟨by rw [htl]; exact key.1, hu, hQ2.1, by omega⟩
  · unfold FP.Core.bound
    rw [if_pos (by omega)]
    exact ⟨Nat.le_refl _, by rw [htl, hpp]; have := Nat.two_pow_pos (f.p - 1); omega, by omega, by omega⟩
theorem fp_rt64 (d : FP.Core.Datum) (h : fp_nz FP.Core.b64 d) : ∃ s c q, c ≠ 0 ∧ FP.Core.decode FP.Core.b64 (UInt64.ofNat (FP.Core.encode FP.Core.b64 d)).toNat = .fin s c q := by
  have e1 : FP.Core.b64.tails = 4503599627370496 := by decide
  have e2 : FP.Core.b64.exps = 2048 := by decide
  have e4 : FP.Core.b64.qmin = -1074 := by decide
  have e5 : 2 ^ FP.Core.b64.p = 9007199254740992 := by decide
  cases d with
  | nan => exact h.elim
  | inf s => exact h.elim
  | fin s c q =>
    obtain ⟨h0, h1, h2, h3⟩ := h
    rw [e1] at h0
    rw [e5] at h1
    have hs := fp_s s
    have he : FP.Core.encode FP.Core.b64 (.fin s c q) = (Bool.toNat s * 2048 + ((q - -1074).toNat + 1)) * 4503599627370496 + (c - 4503599627370496) := by
      show (if c < FP.Core.b64.tails then FP.Core.assemble _ s 0 c else FP.Core.assemble _ s ((q - FP.Core.b64.qmin).toNat + 1) (c - FP.Core.b64.tails)) = _
      rw [e1, e4, if_neg (by omega)]
      unfold FP.Core.assemble
      rw [e1, e2]
    obtain ⟨E, hE⟩ : ∃ E, E = (q - -1074).toNat + 1 := ⟨_, rfl⟩
    rw [he, ← hE, UInt64.toNat_ofNat_of_lt' (by show _ < 18446744073709551616; omega)]
    have eE : FP.Core.fieldE FP.Core.b64 ((Bool.toNat s * 2048 + E) * 4503599627370496 + (c - 4503599627370496)) = E := by
      show ((Bool.toNat s * 2048 + E) * 4503599627370496 + (c - 4503599627370496)) / 4503599627370496 % 2048 = E
      omega
    unfold FP.Core.decode
    rw [eE, show FP.Core.b64.exps - 1 = 2047 by decide, if_neg (by omega), if_neg (by omega), e1]
    exact ⟨_, _, _, by omega, rfl⟩
theorem fp_rt32 (d : FP.Core.Datum) (h : fp_nz FP.Core.b32 d) : ∃ s c q, c ≠ 0 ∧ FP.Core.decode FP.Core.b32 (UInt32.ofNat (FP.Core.encode FP.Core.b32 d)).toNat = .fin s c q := by
  have e1 : FP.Core.b32.tails = 8388608 := by decide
  have e2 : FP.Core.b32.exps = 256 := by decide
  have e4 : FP.Core.b32.qmin = -149 := by decide
  have e5 : 2 ^ FP.Core.b32.p = 16777216 := by decide
  cases d with
  | nan => exact h.elim
  | inf s => exact h.elim
  | fin s c q =>
    obtain ⟨h0, h1, h2, h3⟩ := h
    rw [e1] at h0
    rw [e5] at h1
    have hs := fp_s s
    have he : FP.Core.encode FP.Core.b32 (.fin s c q) = (Bool.toNat s * 256 + ((q - -149).toNat + 1)) * 8388608 + (c - 8388608) := by
      show (if c < FP.Core.b32.tails then FP.Core.assemble _ s 0 c else FP.Core.assemble _ s ((q - FP.Core.b32.qmin).toNat + 1) (c - FP.Core.b32.tails)) = _
      rw [e1, e4, if_neg (by omega)]
      unfold FP.Core.assemble
      rw [e1, e2]
    obtain ⟨E, hE⟩ : ∃ E, E = (q - -149).toNat + 1 := ⟨_, rfl⟩
    rw [he, ← hE, UInt32.toNat_ofNat_of_lt' (by show _ < 4294967296; omega)]
    have eE : FP.Core.fieldE FP.Core.b32 ((Bool.toNat s * 256 + E) * 8388608 + (c - 8388608)) = E := by
      show ((Bool.toNat s * 256 + E) * 8388608 + (c - 8388608)) / 8388608 % 256 = E
      omega
    unfold FP.Core.decode
    rw [eE, show FP.Core.b32.exps - 1 = 255 by decide, if_neg (by omega), if_neg (by omega), e1]
    exact ⟨_, _, _, by omega, rfl⟩
theorem i32_abs (a : Int32) : a.toInt.natAbs < 2 ^ 40 := by
  have h1 := a.toInt_lt
  have h2 := a.le_toInt
  omega
theorem fp_f64 (a : Int32) : ∃ s c q, FP.Core.decode FP.Core.b64 (FP.Core.i2d a).toNat = .fin s c q ∧ (a ≠ 0 → c ≠ 0) := by
  by_cases h : a = 0
  · subst h
    exact ⟨false, 0, -1074, by decide +kernel, fun h => absurd rfl h⟩
  · obtain ⟨s, c, q, h1, h2⟩ := fp_rt64 _ (fp_int (f := FP.Core.b64) (Or.inl rfl) (by decide) (by decide) (z := a.toInt) (fun e => h (Int32.toInt_inj.mp e)) (i32_abs a))
    exact ⟨s, c, q, h2, fun _ => h1⟩
theorem fp_f32 (a : Int32) : ∃ s c q, FP.Core.decode FP.Core.b32 (FP.Core.i2f a).toNat = .fin s c q ∧ (a ≠ 0 → c ≠ 0) := by
  by_cases h : a = 0
  · subst h
    exact ⟨false, 0, -149, by decide +kernel, fun h => absurd rfl h⟩
  · obtain ⟨s, c, q, h1, h2⟩ := fp_rt32 _ (fp_int (f := FP.Core.b32) (Or.inr rfl) (by decide) (by decide) (z := a.toInt) (fun e => h (Int32.toInt_inj.mp e)) (i32_abs a))
    exact ⟨s, c, q, h2, fun _ => h1⟩
theorem fp_quot (f : FP.Core.Fmt) (hp : f.p = 53 ∨ f.p = 24) (hm : f.qmin ≤ f.qmax) (s t : Bool) (c d : Nat) (q r : Int) (h : d ≠ 0) : fp_ok f (FP.Core.quotient f (.fin s c q) (.fin t d r)) := by
  show fp_ok f (if d = 0 then (if c = 0 then FP.Core.Datum.nan else .inf (s != t)) else FP.Core.roundRatio f (s != t) c d (q - r))
  rw [if_neg h]
  exact fp_ok_rr f hp hm _ _ _ _
theorem fp_ddiv (a b : Int32) (h : b ≠ 0) : vf_n64 (FP.ddiv (FP.i2d a) (FP.i2d b)) := by
  obtain ⟨s, c, q, h1, -⟩ := fp_f64 a
  obtain ⟨t, d, r, h2, h3⟩ := fp_f64 b
  show vf_n64 (UInt64.ofNat (FP.Core.encode FP.Core.b64 (FP.Core.quotient FP.Core.b64 (FP.Core.decode FP.Core.b64 (FP.Core.i2d a).toNat) (FP.Core.decode FP.Core.b64 (FP.Core.i2d b).toNat))))
  rw [h1, h2]
  exact fp_n64 _ (fp_quot _ (Or.inl rfl) (by decide) _ _ _ _ _ _ (h3 h))
theorem fp_fdivD (a b : Int32) (h : b ≠ 0) : ∃ d, fp_ok FP.Core.b32 d ∧ FP.fdiv (FP.i2f a) (FP.i2f b) = UInt32.ofNat (FP.Core.encode FP.Core.b32 d) := by
  obtain ⟨s, c, q, h1, -⟩ := fp_f32 a
  obtain ⟨t, d, r, h2, h3⟩ := fp_f32 b
  refine ⟨FP.Core.quotient FP.Core.b32 (.fin s c q) (.fin t d r), fp_quot _ (Or.inr rfl) (by decide) _ _ _ _ _ _ (h3 h), ?_⟩
  show UInt32.ofNat (FP.Core.encode FP.Core.b32 (FP.Core.quotient FP.Core.b32 (FP.Core.decode FP.Core.b32 (FP.Core.i2f a).toNat) (FP.Core.decode FP.Core.b32 (FP.Core.i2f b).toNat))) = _
  rw [h1, h2]
theorem fp_fdiv (a b : Int32) (h : b ≠ 0) : vf_n32 (FP.fdiv (FP.i2f a) (FP.i2f b)) := by
  obtain ⟨d, h1, h2⟩ := fp_fdivD a b h
  rw [h2]
  exact fp_n32 d h1
theorem fp_f2d (d : FP.Core.Datum) (h : fp_ok FP.Core.b32 d) : vf_n64 (FP.f2d (UInt32.ofNat (FP.Core.encode FP.Core.b32 d))) := by
  have hn := fp_d32 d h
  generalize UInt32.ofNat (FP.Core.encode FP.Core.b32 d) = r at hn
  have e : FP.f2d r = UInt64.ofNat (FP.Core.encode FP.Core.b64 (FP.Core.round FP.Core.b64 (FP.Core.decode FP.Core.b32 r.toNat))) := by
    show (if FP.Core.fIsNaN r then FP.nanF2D r else FP.Core.f2d r) = _
    cases hN : FP.Core.fIsNaN r with
    | true => exact absurd (of_decide_eq_true (show decide (FP.Core.decode FP.Core.b32 r.toNat = .nan) = true from hN)) hn
    | false => rfl
  rw [e]
  exact fp_n64 _ (fp_ok_round _ (Or.inl rfl) (by decide) _ hn)
section JF
variable {x : JX} {G : gT} {R : Room} {cc : ByteArray} {w0 : Cond} {own : String} {nL : Nat} {ws : va_W} {k n : Nat} {lv : List (Nat × Value)} {st : List Value} {pc : Nat}
theorem J_i2d (hC : JC x G R cc w0 own nL) {a : Int32} (hd : decode cc pc = .ok (.i2d, 1)) (kk : J x G ws k n lv (.double (FP.i2d a) :: st) (pc + 1)) : J x G ws k n lv (.int a :: st) pc := fun H locs ls hP hD hS hL => lv_i2d hC.1 hC.2.1 hd (kk H locs ls hP hD hS hL)
theorem J_i2f (hC : JC x G R cc w0 own nL) {a : Int32} (hd : decode cc pc = .ok (.i2f, 1)) (kk : J x G ws k n lv (.float (FP.i2f a) :: st) (pc + 1)) : J x G ws k n lv (.int a :: st) pc := fun H locs ls hP hD hS hL => lv_i2f hC.1 hC.2.1 hd (kk H locs ls hP hD hS hL)
theorem J_f2d (hC : JC x G R cc w0 own nL) {a : UInt32} (hd : decode cc pc = .ok (.f2d, 1)) (hne : vf_n64 (FP.f2d a)) (kk : J x G ws k n lv (.double (FP.f2d a) :: st) (pc + 1)) : J x G ws k n lv (.float a :: st) pc := fun H locs ls hP hD hS hL => lv_f2d hC.1 hC.2.1 hd hne (kk H locs ls hP hD hS hL)
theorem J_ddiv (hC : JC x G R cc w0 own nL) {a b : UInt64} (hd : decode cc pc = .ok (.ddiv, 1)) (hne : vf_n64 (FP.ddiv a b)) (kk : J x G ws k n lv (.double (FP.ddiv a b) :: st) (pc + 1)) : J x G ws k n lv (.double b :: .double a :: st) pc := fun H locs ls hP hD hS hL => lv_ddiv hC.1 hC.2.1 hd hne (kk H locs ls hP hD hS hL)
theorem J_fdiv (hC : JC x G R cc w0 own nL) {a b : UInt32} (hd : decode cc pc = .ok (.fdiv, 1)) (hne : vf_n32 (FP.fdiv a b)) (kk : J x G ws k n lv (.float (FP.fdiv a b) :: st) (pc + 1)) : J x G ws k n lv (.float b :: .float a :: st) pc := fun H locs ls hP hD hS hL => lv_fdiv hC.1 hC.2.1 hd hne (kk H locs ls hP hD hS hL)
theorem J_dconst0 (hC : JC x G R cc w0 own nL) (hd : decode cc pc = .ok (.dconst 0, 1)) (kk : J x G ws k n lv (.double FP.dconst0 :: st) (pc + 1)) : J x G ws k n lv st pc := fun H locs ls hP hD hS hL => lv_dconst0 hC.1 hC.2.1 hd (kk H locs ls hP hD hS hL)
theorem J_fconst0 (hC : JC x G R cc w0 own nL) (hd : decode cc pc = .ok (.fconst 0, 1)) (kk : J x G ws k n lv (.float FP.fconst0 :: st) (pc + 1)) : J x G ws k n lv st pc := fun H locs ls hP hD hS hL => lv_fconst0 hC.1 hC.2.1 hd (kk H locs ls hP hD hS hL)
theorem J_dcmp (hC : JC x G R cc w0 own nL) {a b : UInt64} {op : CmpOp} (hd : decode cc pc = .ok (.dcmp op, 1)) (kk : J x G ws k n lv (.int (Op.cmpValue (FP.dcmp a b) op) :: st) (pc + 1)) : J x G ws k n lv (.double b :: .double a :: st) pc := fun H locs ls hP hD hS hL => lv_dcmp hC.1 hC.2.1 hd (kk H locs ls hP hD hS hL)
end JF
def JRd {S : Type} (x : JX) (G : gT) (post : UInt64 → S → Prop) (W1 : S → va_W) (mc ms : Nat) : Prop :=
  (jt x).sig.returnType = some .double ∧ (jt x).locks = false ∧ jQ x = MQ (jb x) (va_Qd post (fun u => gB G (W1 u) (jA x)) (jA x) ) (ja x) (js x) mc ms (jA x)
theorem J_dret {S : Type} {x : JX} {G : gT} {R : Room} {cc : ByteArray} {w0 : Cond} {own : String} {nL : Nat} {ws : va_W} {k n mc ms : Nat} {lv : List (Nat × Value)} {pc : Nat} {post : UInt64 → S → Prop} {W1 : S → va_W} {v : UInt64} (hC : JC x G R cc w0 own nL) (hR : JRd x G post W1 mc ms)
    (hd : decode cc pc = .ok (.dreturn, 1)) (u : S) (hp : post v u) (hw : ws = W1 u) (hk : k ≤ mc) (hs : n ≤ ms) : J x G ws k n lv [.double v] pc := by
  subst hw
  intro H locs ls hP hD hS hL
  obtain ⟨hr, hlk, hQ⟩ := hR
  rw [hQ]
  rw [hC.2.2.2.2.2.2.2.2.1] at hS
  refine W.widen hk hs ?_
  exact W.dret hC.1 hC.2.1 hr (fun t ht hW => ⟨⟨v, u, rfl, hp, by rw [ht]; exact hP, va_K.moved hW.alike hC.2.2.2.2.2.1, hD⟩, hS.F ht⟩) hS.2.2 hd hlk
abbrev MD {S : Type} (l : Launch) (y : MethodName) (cc : ByteArray) (maxL : Nat) (rm : Room) (av : List Value) (G : gT) (W0 : va_W) (post : UInt64 → S → Prop) (W1 : S → va_W) : Prop := ∀ sz : Nat, Met l y (Cond.code y cc maxL (some .double) :: GW) rm (va_Pc av (gP G W0 sz)) (va_Qd post (fun u => gB G (W1 u) (va_A W0 sz)) (va_A W0 sz)) rm.cells rm.slots (va_A W0 sz)
theorem jm_d {S : Type} {l : Launch} {y : MethodName} {rm : Room} {cc : ByteArray} {maxL : Nat} {av : List Value} {G : gT} {W0 : va_W} {W1 : S → va_W} {post : UInt64 → S → Prop} {own : String} (hy : plainName y.cls = true) (ho : y.cls = own) (hn : (lg_sl av).length ≤ maxL)
    (body : ∀ x : JX, jl x = l → JC x G rm cc (Cond.code y cc maxL (some .double)) own maxL → JRd x G post W1 rm.cells rm.slots → (jt x).name = y.name → J x G W0 0 0 (lv_args 0 av) [] 0) :
    MD l y cc maxL rm av G W0 post W1 := by
  intro sz
  refine Met.ofW (cc := cc) (maxL := maxL) (ret := some .double) hy rfl ?_
  intro p e s m args below meth c s₁ B hml hv
  subst ho
  obtain ⟨rfl, hsz, hP, hK, hD0, hE⟩ := hv
  have hts := atoms_spec (ws := Cond.code y cc maxL (some .double) :: GW) B.pre
  have hown : s.vm.findClass y.cls = some m.cls := findClass_of_methodNamed B.named
  subst hsz
  have hD := hD0.self (sz := s.heap.size)
  have hA : ∀ q : Nat, s.heap.size ≤ q → va_A W0 s.heap.size q := fun q h => Or.inr h
  have hl := lv_entry av (n := maxL) hn
  rw [lg_entry_eq]
  exact body (p, l, e, (headSpec (Cond.code y cc maxL (some .double) :: GW) rm).room, s, m, av.toArray, below, meth, c, va_A W0 s.heap.size, s.heap, MQ below (va_Qd post (fun u => gB G (W1 u) (va_A W0 s.heap.size)) (va_A W0 s.heap.size)) av.toArray s rm.cells rm.slots (va_A W0 s.heap.size)) rfl
    ⟨B.exec, B.bytes, hml, hown, hts, hK, hA, rfl, rfl, hE⟩ ⟨B.returns, B.notSynchronized, rfl⟩ (name_of_methodNamed B.named B.method).1 s.heap [] _ hP hD va_S.rf (hml ▸ hl)
section FRD
variable {S : Type} {l : Launch} {y : MethodName} {ws : List Cond} {rm : Room} {av : List Value} {G : gT} {W0 wc wr : va_W} {w1 W1 : S → va_W} {mc ms : Nat}
theorem fr_d {post : UInt64 → S → Prop} (hM : ∀ sz : Nat, Met l y ws rm (va_Pc av (gP G wc sz)) (va_Qd post (fun u => gB G (w1 u) (va_A wc sz)) (va_A wc sz)) mc ms (va_A wc sz)) (h0 : W0.Perm (wc ++ wr)) (h1 : ∀ u, (w1 u ++ wr).Perm (W1 u)) :
    ∀ sz : Nat, Met l y ws rm (va_Pc av (gP G W0 sz)) (va_Qd post (fun u => gB G (W1 u) (va_A W0 sz)) (va_A W0 sz)) mc ms (va_A W0 sz) := by
  intro sz p e ha hc hk s m args below hf happ hP hKt
  obtain ⟨n, o, g1, g2, g3, ⟨⟨r, u, ho, hpost, hB⟩, hF⟩, L, hFE, hL⟩ := hM sz p e ha hc hk s m args below hf happ ⟨hP.1, fr_sub h0 hP.2⟩ trivial
  obtain ⟨hB2, hF2⟩ := fr_go h0 (h1 u) hP.2 hB hF
  exact ⟨n, o, g1, g2, g3, ⟨⟨r, u, ho, hpost, hB2⟩, hF2⟩, L, hFE, fun q hq => fr_mono h0 _ (hL q hq)⟩
end FRD
section JCD
variable {S : Type} {x : JX} {G : gT} {R : Room} {cc : ByteArray} {w0 : Cond} {own : String} {nL : Nat} {ws : va_W} {k n : Nat} {lv : List (Nat × Value)} {st rest : List Value} {pc : Nat}
variable {C : String} {idx maxLY na : Nat} {y : MethodName} {ccY : ByteArray} {rmY : Room} {As : List Value} {b : Nat}
theorem J_callVd {post : UInt64 → S → Prop} {W1 : S → va_W} {T : u_T} {N : Nat} {fs : List Value} (hC : JC x G R cc w0 own nL) (hd : decode cc pc = .ok (.invokevirtual idx, 3)) (hl : Cond.methodLink own idx y ∈ GW) (hY : YV y C ccY maxLY (some .double) na)
    (hM : MD (jl x) y ccY maxLY rmY (.ref b :: As) G ws post W1)
    (hst : st = As.reverse ++ .ref b :: rest) (hna : As.length = na) (q ci : Nat) (hq : ws[q]? = some (b, .inr (ci, fs))) (hc : vwCl[ci]? = some (C, T, N))
    (hR : rmY.frames + 1 ≤ R.frames ∧ 8 + (maxLY + 11) + rmY.locals ≤ R.locals) (hcat : (rest.map fun v => v.category).sum ≤ 8) (hk : k + rmY.cells ≤ R.cells) (hn : n + rmY.slots ≤ R.slots)
    (kk : ∀ (r : UInt64) (u : S), post r u → J x G (W1 u) (k + rmY.cells) (n + rmY.slots) lv (.double r :: rest) (pc + 3)) : J x G ws k n lv st pc := by
  intro H locs ls hP hD hS hL
  have hK := hC.2.2.2.2.2.1
  have hRR : jR x = R := hC.2.2.2.2.2.2.2.1
  have hE := hC.2.2.2.2.2.2.2.2.2
  have hF := va_A_in hD hS hC.2.2.2.2.2.2.1
  refine va_calld (va_runV (As := As) (rest := rest) ⟨hC.1, hC.2.1, hC.2.2.1, hC.2.2.2.1, hC.2.2.2.2.1⟩ (hM H.size) (cwV na hC.2.2.2.2.1 (gwV hl hY.1 hY.2.1 hY.2.2.1 hY.2.2.2.1) rfl rfl rfl hY.2.2.2.2 (by rw [hRR]; exact hR)) ⟨gP_blind _ _ _ _, va_recv hK hP hc hq, fun U hU hW => ⟨rfl, by rw [hU], by rw [hU]; exact hP, va_K.moved hW.alike hK, hD.weaken (fun _ _ _ _ => trivial), hE.step hW (by rw [hU]; intro q hq hn; rw [hC.2.2.2.2.2.2.2.2.1] at hS; exact hS.2.1 q hq hn) hF⟩⟩ rfl hna (hL.1.trans hC.2.2.1) hst (lv_room hcat) hd (by rw [hRR]; exact ⟨hk, hn⟩)) hS (fun q _ h => hF q h) hF (fun r u t H1 locs1 ht hvm hw hB hz hk1 hS1 => ?_)
  obtain ⟨hP1, hK1, hD1⟩ := hB
  rw [ht] at hP1
  exact kk r u hw H1 locs1 ls hP1 (hD1.weaken (fun _ _ _ h => hF _ h)) hS1 hL
end JCD
def JRf {S : Type} (x : JX) (G : gT) (post : UInt32 → S → Prop) (W1 : S → va_W) (mc ms : Nat) : Prop :=
  (jt x).sig.returnType = some .float ∧ (jt x).locks = false ∧ jQ x = MQ (jb x) (va_Qf post (fun u => gB G (W1 u) (jA x)) (jA x) ) (ja x) (js x) mc ms (jA x)
theorem J_fret {S : Type} {x : JX} {G : gT} {R : Room} {cc : ByteArray} {w0 : Cond} {own : String} {nL : Nat} {ws : va_W} {k n mc ms : Nat} {lv : List (Nat × Value)} {pc : Nat} {post : UInt32 → S → Prop} {W1 : S → va_W} {v : UInt32} (hC : JC x G R cc w0 own nL) (hR : JRf x G post W1 mc ms)
    (hd : decode cc pc = .ok (.freturn, 1)) (u : S) (hp : post v u) (hw : ws = W1 u) (hk : k ≤ mc) (hs : n ≤ ms) : J x G ws k n lv [.float v] pc := by
  subst hw
  intro H locs ls hP hD hS hL
  obtain ⟨hr, hlk, hQ⟩ := hR
  rw [hQ]
  rw [hC.2.2.2.2.2.2.2.2.1] at hS
  refine W.widen hk hs ?_
  exact W.fret hC.1 hC.2.1 hr (fun t ht hW => ⟨⟨v, u, rfl, hp, by rw [ht]; exact hP, va_K.moved hW.alike hC.2.2.2.2.2.1, hD⟩, hS.F ht⟩) hS.2.2 hd hlk
abbrev MF {S : Type} (l : Launch) (y : MethodName) (cc : ByteArray) (maxL : Nat) (rm : Room) (av : List Value) (G : gT) (W0 : va_W) (post : UInt32 → S → Prop) (W1 : S → va_W) : Prop := ∀ sz : Nat, Met l y (Cond.code y cc maxL (some .float) :: GW) rm (va_Pc av (gP G W0 sz)) (va_Qf post (fun u => gB G (W1 u) (va_A W0 sz)) (va_A W0 sz)) rm.cells rm.slots (va_A W0 sz)
theorem jm_f {S : Type} {l : Launch} {y : MethodName} {rm : Room} {cc : ByteArray} {maxL : Nat} {av : List Value} {G : gT} {W0 : va_W} {W1 : S → va_W} {post : UInt32 → S → Prop} {own : String} (hy : plainName y.cls = true) (ho : y.cls = own) (hn : (lg_sl av).length ≤ maxL)
    (body : ∀ x : JX, jl x = l → JC x G rm cc (Cond.code y cc maxL (some .float)) own maxL → JRf x G post W1 rm.cells rm.slots → (jt x).name = y.name → J x G W0 0 0 (lv_args 0 av) [] 0) :
    MF l y cc maxL rm av G W0 post W1 := by
  intro sz
  refine Met.ofW (cc := cc) (maxL := maxL) (ret := some .float) hy rfl ?_
  intro p e s m args below meth c s₁ B hml hv
  subst ho
  obtain ⟨rfl, hsz, hP, hK, hD0, hE⟩ := hv
  have hts := atoms_spec (ws := Cond.code y cc maxL (some .float) :: GW) B.pre
  have hown : s.vm.findClass y.cls = some m.cls := findClass_of_methodNamed B.named
  subst hsz
  have hD := hD0.self (sz := s.heap.size)
  have hA : ∀ q : Nat, s.heap.size ≤ q → va_A W0 s.heap.size q := fun q h => Or.inr h
  have hl := lv_entry av (n := maxL) hn
  rw [lg_entry_eq]
  exact body (p, l, e, (headSpec (Cond.code y cc maxL (some .float) :: GW) rm).room, s, m, av.toArray, below, meth, c, va_A W0 s.heap.size, s.heap, MQ below (va_Qf post (fun u => gB G (W1 u) (va_A W0 s.heap.size)) (va_A W0 s.heap.size)) av.toArray s rm.cells rm.slots (va_A W0 s.heap.size)) rfl
    ⟨B.exec, B.bytes, hml, hown, hts, hK, hA, rfl, rfl, hE⟩ ⟨B.returns, B.notSynchronized, rfl⟩ (name_of_methodNamed B.named B.method).1 s.heap [] _ hP hD va_S.rf (hml ▸ hl)
section FRF
variable {S : Type} {l : Launch} {y : MethodName} {ws : List Cond} {rm : Room} {av : List Value} {G : gT} {W0 wc wr : va_W} {w1 W1 : S → va_W} {mc ms : Nat}
theorem fr_f {post : UInt32 → S → Prop} (hM : ∀ sz : Nat, Met l y ws rm (va_Pc av (gP G wc sz)) (va_Qf post (fun u => gB G (w1 u) (va_A wc sz)) (va_A wc sz)) mc ms (va_A wc sz)) (h0 : W0.Perm (wc ++ wr)) (h1 : ∀ u, (w1 u ++ wr).Perm (W1 u)) :
    ∀ sz : Nat, Met l y ws rm (va_Pc av (gP G W0 sz)) (va_Qf post (fun u => gB G (W1 u) (va_A W0 sz)) (va_A W0 sz)) mc ms (va_A W0 sz) := by
  intro sz p e ha hc hk s m args below hf happ hP hKt
  obtain ⟨n, o, g1, g2, g3, ⟨⟨r, u, ho, hpost, hB⟩, hF⟩, L, hFE, hL⟩ := hM sz p e ha hc hk s m args below hf happ ⟨hP.1, fr_sub h0 hP.2⟩ trivial
  obtain ⟨hB2, hF2⟩ := fr_go h0 (h1 u) hP.2 hB hF
  exact ⟨n, o, g1, g2, g3, ⟨⟨r, u, ho, hpost, hB2⟩, hF2⟩, L, hFE, fun q hq => fr_mono h0 _ (hL q hq)⟩
end FRF
section JCF
variable {S : Type} {x : JX} {G : gT} {R : Room} {cc : ByteArray} {w0 : Cond} {own : String} {nL : Nat} {ws : va_W} {k n : Nat} {lv : List (Nat × Value)} {st rest : List Value} {pc : Nat}
variable {C : String} {idx maxLY na : Nat} {y : MethodName} {ccY : ByteArray} {rmY : Room} {As : List Value} {b : Nat}
theorem J_callVf {post : UInt32 → S → Prop} {W1 : S → va_W} {T : u_T} {N : Nat} {fs : List Value} (hC : JC x G R cc w0 own nL) (hd : decode cc pc = .ok (.invokevirtual idx, 3)) (hl : Cond.methodLink own idx y ∈ GW) (hY : YV y C ccY maxLY (some .float) na)
    (hM : MF (jl x) y ccY maxLY rmY (.ref b :: As) G ws post W1)
    (hst : st = As.reverse ++ .ref b :: rest) (hna : As.length = na) (q ci : Nat) (hq : ws[q]? = some (b, .inr (ci, fs))) (hc : vwCl[ci]? = some (C, T, N))
    (hR : rmY.frames + 1 ≤ R.frames ∧ 8 + (maxLY + 11) + rmY.locals ≤ R.locals) (hcat : (rest.map fun v => v.category).sum ≤ 8) (hk : k + rmY.cells ≤ R.cells) (hn : n + rmY.slots ≤ R.slots)
    (kk : ∀ (r : UInt32) (u : S), post r u → J x G (W1 u) (k + rmY.cells) (n + rmY.slots) lv (.float r :: rest) (pc + 3)) : J x G ws k n lv st pc := by
  intro H locs ls hP hD hS hL
  have hK := hC.2.2.2.2.2.1
  have hRR : jR x = R := hC.2.2.2.2.2.2.2.1
  have hE := hC.2.2.2.2.2.2.2.2.2
  have hF := va_A_in hD hS hC.2.2.2.2.2.2.1
  refine va_callf (va_runV (As := As) (rest := rest) ⟨hC.1, hC.2.1, hC.2.2.1, hC.2.2.2.1, hC.2.2.2.2.1⟩ (hM H.size) (cwV na hC.2.2.2.2.1 (gwV hl hY.1 hY.2.1 hY.2.2.1 hY.2.2.2.1) rfl rfl rfl hY.2.2.2.2 (by rw [hRR]; exact hR)) ⟨gP_blind _ _ _ _, va_recv hK hP hc hq, fun U hU hW => ⟨rfl, by rw [hU], by rw [hU]; exact hP, va_K.moved hW.alike hK, hD.weaken (fun _ _ _ _ => trivial), hE.step hW (by rw [hU]; intro q hq hn; rw [hC.2.2.2.2.2.2.2.2.1] at hS; exact hS.2.1 q hq hn) hF⟩⟩ rfl hna (hL.1.trans hC.2.2.1) hst (lv_room hcat) hd (by rw [hRR]; exact ⟨hk, hn⟩)) hS (fun q _ h => hF q h) hF (fun r u t H1 locs1 ht hvm hw hB hz hk1 hS1 => ?_)
  obtain ⟨hP1, hK1, hD1⟩ := hB
  rw [ht] at hP1
  exact kk r u hw H1 locs1 ls hP1 (hD1.weaken (fun _ _ _ h => hF _ h)) hS1 hL
end JCF
abbrev JTd {S SX : Type} (x : JX) (G : gT) (post : UInt64 → S → Prop) (W1 : S → va_W) (px : SX → Prop) (EX : SX → String) (WX : SX → va_W) (mc ms : Nat) : Prop :=
  (jt x).sig.returnType = some .double ∧ JT x G (va_Qd post (fun u => gB G (W1 u) (jA x)) (jA x)) px EX WX mc ms
section JTD
variable {S SX : Type} {x : JX} {G : gT} {R : Room} {cc : ByteArray} {w0 : Cond} {own : String} {nL : Nat} {ws : va_W} {k n mc ms : Nat} {lv : List (Nat × Value)} {rest : List Value} {pc : Nat} {W1 : S → va_W} {px : SX → Prop} {EX : SX → String} {WX : SX → va_W}
theorem J_dretT {post : UInt64 → S → Prop} {v : UInt64} (hC : JC x G R cc w0 own nL) (hR : JTd x G post W1 px EX WX mc ms)
    (hd : decode cc pc = .ok (.dreturn, 1)) (u : S) (hp : post v u) (hw : ws = W1 u) (hk : k ≤ mc) (hs : n ≤ ms) : J x G ws k n lv [.double v] pc := by
  subst hw
  intro H locs ls hP hD hS hL
  obtain ⟨hr, hlk, -, -, -, hQ⟩ := hR
  rw [hQ]
  rw [hC.2.2.2.2.2.2.2.2.1] at hS
  refine vx_ret (W.widen hk hs ?_)
  exact W.dret hC.1 hC.2.1 hr (fun t ht hW => ⟨⟨v, u, rfl, hp, by rw [ht]; exact hP, va_K.moved hW.alike hC.2.2.2.2.2.1, hD⟩, hS.F ht⟩) hS.2.2 hd hlk
end JTD
abbrev TD {S SX : Type} (l : Launch) (y : MethodName) (cc : ByteArray) (maxL : Nat) (rm : Room) (av : List Value) (G : gT) (W0 : va_W) (post : UInt64 → S → Prop) (W1 : S → va_W) (px : SX → Prop) (EX : SX → String) (WX : SX → va_W) : Prop := ∀ sz : Nat, vx_Met l y (Cond.code y cc maxL (some .double) :: GW) rm (va_Pc av (gX G W0 sz)) (va_Qd post (fun u => gB G (W1 u) (va_A W0 sz)) (va_A W0 sz)) (vx_X px (xB G EX WX (va_A W0 sz)) (va_A W0 sz)) rm.cells rm.slots (va_A W0 sz)
theorem jt_d {S SX : Type} {l : Launch} {y : MethodName} {rm : Room} {cc : ByteArray} {maxL : Nat} {av : List Value} {G : gT} {W0 : va_W} {W1 : S → va_W} {post : UInt64 → S → Prop} {px : SX → Prop} {EX : SX → String} {WX : SX → va_W} {own : String} (hst : l.stackTraces = false) (hy : plainName y.cls = true) (ho : y.cls = own) (hn : (lg_sl av).length ≤ maxL)
    (body : ∀ x : JX, jl x = l → JC x G rm cc (Cond.code y cc maxL (some .double)) own maxL → JTd x G post W1 px EX WX rm.cells rm.slots → (jt x).name = y.name → J x G W0 0 0 (lv_args 0 av) [] 0) :
    TD l y cc maxL rm av G W0 post W1 px EX WX := by
  intro sz
  refine vx_ofW (cc := cc) (maxL := maxL) (ret := some .double) hy rfl ?_
  intro p e s m args below meth c s₁ B hml htab hv
  subst ho
  obtain ⟨rfl, ⟨hsz, hP, hK, hD0, hE⟩, hxT⟩ := hv
  have hts := atoms_spec (ws := Cond.code y cc maxL (some .double) :: GW) B.pre
  have hown : s.vm.findClass y.cls = some m.cls := findClass_of_methodNamed B.named
  subst hsz
  have hD := hD0.self (sz := s.heap.size)
  have hA : ∀ q : Nat, s.heap.size ≤ q → va_A W0 s.heap.size q := fun q h => Or.inr h
  have hl := lv_entry av (n := maxL) hn
  rw [lg_entry_eq]
  exact body (p, l, e, (headSpec (Cond.code y cc maxL (some .double) :: GW) rm).room, s, m, av.toArray, below, meth, c, va_A W0 s.heap.size, s.heap, vx_MQ below (va_Qd post (fun u => gB G (W1 u) (va_A W0 s.heap.size)) (va_A W0 s.heap.size)) (vx_X px (xB G EX WX (va_A W0 s.heap.size)) (va_A W0 s.heap.size)) av.toArray s rm.cells rm.slots (va_A W0 s.heap.size)) rfl
    ⟨B.exec, B.bytes, hml, hown, hts, hK, hA, rfl, rfl, hE⟩ ⟨B.returns, B.notSynchronized, htab, hst, hxT, rfl⟩ (name_of_methodNamed B.named B.method).1 s.heap [] _ hP hD va_S.rf (hml ▸ hl)
section FRTD
variable {S SX : Type} {l : Launch} {y : MethodName} {ws : List Cond} {rm : Room} {av : List Value} {G : gT} {W0 wc wr : va_W} {w1 W1 : S → va_W} {w2 W2 : SX → va_W} {px : SX → Prop} {EX : SX → String} {mc ms : Nat}
theorem frt_d {post : UInt64 → S → Prop} (hM : ∀ sz : Nat, vx_Met l y ws rm (va_Pc av (gX G wc sz)) (va_Qd post (fun u => gB G (w1 u) (va_A wc sz)) (va_A wc sz)) (vx_X px (xB G EX w2 (va_A wc sz)) (va_A wc sz)) mc ms (va_A wc sz)) (h0 : W0.Perm (wc ++ wr)) (h1 : ∀ u, (w1 u ++ wr).Perm (W1 u)) (h2 : ∀ u, (w2 u ++ wr).Perm (W2 u)) :
    ∀ sz : Nat, vx_Met l y ws rm (va_Pc av (gX G W0 sz)) (va_Qd post (fun u => gB G (W1 u) (va_A W0 sz)) (va_A W0 sz)) (vx_X px (xB G EX W2 (va_A W0 sz)) (va_A W0 sz)) mc ms (va_A W0 sz) := by
  intro sz p e ha hc hk s m args below hf happ hP hKt
  obtain ⟨n, o, g1, g2, g3, hq⟩ := hM sz p e ha hc hk s m args below hf happ ⟨hP.1, fr_sub h0 hP.2.1, hP.2.2⟩ trivial
  refine ⟨n, o, g1, g2, g3, ?_⟩
  rcases hq with ⟨⟨⟨r, u, ho, hpost, hB⟩, hF⟩, L, hFE, hL⟩ | ⟨q9, ho, E, ce, L, ⟨u, hp, ⟨hE, hB⟩, hF⟩, r1, r2, r3, r4, r5, hL⟩
  · obtain ⟨hB2, hF2⟩ := fr_go h0 (h1 u) hP.2.1 hB hF
    exact Or.inl ⟨⟨⟨r, u, ho, hpost, hB2⟩, hF2⟩, L, hFE, fun q hq => fr_mono h0 _ (hL q hq)⟩
  · obtain ⟨hB2, hF2⟩ := fr_go h0 (h2 u) hP.2.1 hB hF
    exact Or.inr ⟨q9, ho, E, ce, L, ⟨u, hp, ⟨hE, hB2⟩, hF2⟩, r1, r2, r3, r4, r5, fun q hq => fr_mono h0 _ (hL q hq)⟩
end FRTD

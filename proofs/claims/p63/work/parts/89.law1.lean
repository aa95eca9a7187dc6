/-! THE LAW: its numbers -/
def scN (G : gT) (k : Nat) : Nat := if k < G.2.2.1 15 then G.2.2.1 (16 + k) % 2 ^ 31 else 0
theorem scN_lt (G : gT) (k : Nat) : scN G k < 2 ^ 31 := by
  unfold scN
  split <;> omega
theorem nI_msk (a : Nat) : nI a &&& 2147483647 = nI (a % 2 ^ 31) := by
  apply Int32.toBitVec_inj.mp
  apply BitVec.eq_of_toNat_eq
  show (nI a).toBitVec.toNat &&& 2147483647 = (nI (a % 2 ^ 31)).toBitVec.toNat
  have e : ∀ n, (nI n).toBitVec.toNat = n % 2 ^ 32 := fun n => rfl
  rw [e, e, show (2147483647 : Nat) = 2 ^ 31 - 1 from rfl, Nat.and_two_pow_sub_one_eq_mod]
  omega
def oddsN (G : gT) (w : Nat) : Nat := if w = 0 then scN G 0 / 1024 % 21 else if w = 1 then scN G 0 / 32768 % 21 else 1 + scN G 1 % 20
def peopleN (G : gT) (v : Nat) : Nat := 1 + scN G (2 + v) % 99
def trustN (G : gT) (v : Nat) : Nat := scN G (2 + v) / 128 % 101
def placeN (G : gT) (f : Nat) : Nat := scN G (5 + f) % 3
def periodN (G : gT) (f : Nat) : Nat := 1 + scN G (5 + f) / 4 % 12
def stockN (G : gT) (f : Nat) : Nat := 1 + scN G (5 + f) / 64 % 40
def priceN (G : gT) (f : Nat) : Nat := 1 + scN G (5 + f) / 4096 % 20
set_option maxRecDepth 100000 in
theorem c_L_cell (l : Launch) (G : gT) (W : va_W) (hb : G.2.2.1 15 < 2 ^ 31) (k : Nat) (hk : k < 2 ^ 31) : MI l yL_cell cL_cell 2 (some FieldType.int) { frames := 0, cells := 0, slots := 0, locals := 0 } [.ref (G.2.2.1 14), .int (nI k)] G W (fun r9 (_ : Unit) => r9 = nI (scN G k)) (fun _ => W) := by
  refine jm_i (own := RL) (by decide) rfl (Nat.le_of_ble_eq_true rfl) (fun x hl hC hR hN => ?_)
  subst hl
  refine J_iload_n hC dL_cell_0 1 rfl rfl ?_
  refine J_aload_n hC dL_cell_1 0 rfl rfl ?_
  refine J_sclen hC dL_cell_2 ?_
  refine J_ic_geN (a := k) (b := G.2.2.1 15) (tgt := 15) hC dL_cell_3 (by decide) hk hb (fun c1 => ?_) (fun c1 => ?_)
  · refine J_iconst (v := 0) hC dL_cell_15 rfl ?_
    exact J_iret hC hR dL_cell_16 rfl () (by rw [scN, if_neg (by omega)]; rfl) rfl (by decide) (by decide)
  · refine J_aload_n hC dL_cell_6 0 rfl rfl ?_
    refine J_iload_n hC dL_cell_7 1 rfl rfl ?_
    refine J_scld (i := k) hC c1 hb dL_cell_8 ?_
    refine J_ldc (v := 2147483647) hC dL_cell_9 wx_L_7 ?_
    refine J_iand (v := nI (scN G k)) hC dL_cell_11 (by rw [scN, if_pos c1]; exact nI_msk _) ?_
    refine J_goto (tgt := 16) hC dL_cell_12 (by decide) ?_
    exact J_iret hC hR dL_cell_16 rfl () rfl rfl (by decide) (by decide)

set_option maxRecDepth 100000 in
theorem c_L_odds (l : Launch) (G : gT) (W : va_W) (hb : G.2.2.1 15 < 2 ^ 31) (v : Nat) (hv : v < 3) : MI l yL_odds cL_odds 2 (some FieldType.int) { frames := 1, cells := 0, slots := 0, locals := 30 } [.ref (G.2.2.1 14), .int (nI v)] G W (fun r9 (_ : Unit) => r9 = nI (oddsN G v)) (fun _ => W) := by
  refine jm_i (own := RL) (by decide) rfl (Nat.le_of_ble_eq_true rfl) (fun x hl hC hR hN => ?_)
  subst hl
  have hs0 := scN_lt G 0
  have hs1 := scN_lt G 1
  refine J_iload_n hC dL_odds_0 1 rfl rfl ?_
  refine J_if_neN (a := v) (tgt := 19) hC dL_odds_1 (by decide) (by omega) (fun c1 => ?_) (fun c1 => ?_)
  · refine J_iload_n hC dL_odds_19 1 rfl rfl ?_
    refine J_iconst (v := 1) hC dL_odds_20 rfl ?_
    refine J_ic_neN (a := v) (b := 1) (tgt := 38) hC dL_odds_21 (by decide) (by omega) (by decide) (fun c2 => ?_) (fun c2 => ?_)
    · refine J_iconst (v := 1) hC dL_odds_38 rfl ?_
      refine J_aload_n hC dL_odds_39 0 rfl rfl ?_
      refine J_iconst (v := 1) hC dL_odds_40 rfl ?_
      refine J_callSi hC dL_odds_41 wl_L_33 wi_L yi_L_cell (c_L_cell _ G W hb (1) (by omega)) rfl rfl ⟨Nat.le_of_ble_eq_true rfl, Nat.le_of_ble_eq_true rfl⟩ (Nat.le_of_ble_eq_true rfl) (Nat.le_of_ble_eq_true rfl) (Nat.le_of_ble_eq_true rfl) (fun r9 u9 h9 => ?_)
      subst h9
      refine J_bipush (v := 20) hC dL_odds_44 rfl ?_
      refine J_irem (v := nI (scN G 1 % 20)) hC dL_odds_46 (by decide) (nMd (by omega) (by decide) (by decide)) ?_
      refine J_iadd (v := nI (1 + scN G 1 % 20)) hC dL_odds_47 (nI_add 1 (scN G 1 % 20)) ?_
      exact J_iret hC hR dL_odds_48 rfl () (by rw [oddsN, if_neg (by omega), if_neg c2]) rfl (by decide) (by decide)
    · refine J_aload_n hC dL_odds_24 0 rfl rfl ?_
      refine J_iconst (v := 0) hC dL_odds_25 rfl ?_
      refine J_callSi hC dL_odds_26 wl_L_33 wi_L yi_L_cell (c_L_cell _ G W hb (0) (by omega)) rfl rfl ⟨Nat.le_of_ble_eq_true rfl, Nat.le_of_ble_eq_true rfl⟩ (Nat.le_of_ble_eq_true rfl) (Nat.le_of_ble_eq_true rfl) (Nat.le_of_ble_eq_true rfl) (fun r9 u9 h9 => ?_)
      subst h9
      refine J_ldc (v := 32768) hC dL_odds_29 wx_L_39 ?_
      refine J_idiv (v := nI (scN G 0 / 32768)) hC dL_odds_31 (by decide) (nDv (by omega) (by decide) (by decide)) ?_
      refine J_bipush (v := 21) hC dL_odds_32 rfl ?_
      refine J_irem (v := nI (scN G 0 / 32768 % 21)) hC dL_odds_34 (by decide) (nMd (by omega) (by decide) (by decide)) ?_
      refine J_goto (tgt := 48) hC dL_odds_35 (by decide) ?_
      exact J_iret hC hR dL_odds_48 rfl () (by rw [oddsN, if_neg (by omega), if_pos c2]) rfl (by decide) (by decide)
  · refine J_aload_n hC dL_odds_4 0 rfl rfl ?_
    refine J_iconst (v := 0) hC dL_odds_5 rfl ?_
    refine J_callSi hC dL_odds_6 wl_L_33 wi_L yi_L_cell (c_L_cell _ G W hb (0) (by omega)) rfl rfl ⟨Nat.le_of_ble_eq_true rfl, Nat.le_of_ble_eq_true rfl⟩ (Nat.le_of_ble_eq_true rfl) (Nat.le_of_ble_eq_true rfl) (Nat.le_of_ble_eq_true rfl) (fun r9 u9 h9 => ?_)
    subst h9
    refine J_sipush (v := 1024) hC dL_odds_9 rfl ?_
    refine J_idiv (v := nI (scN G 0 / 1024)) hC dL_odds_12 (by decide) (nDv (by omega) (by decide) (by decide)) ?_
    refine J_bipush (v := 21) hC dL_odds_13 rfl ?_
    refine J_irem (v := nI (scN G 0 / 1024 % 21)) hC dL_odds_15 (by decide) (nMd (by omega) (by decide) (by decide)) ?_
    refine J_goto (tgt := 48) hC dL_odds_16 (by decide) ?_
    exact J_iret hC hR dL_odds_48 rfl () (by rw [oddsN, if_pos c1]) rfl (by decide) (by decide)

set_option maxRecDepth 100000 in
theorem c_L_people (l : Launch) (G : gT) (W : va_W) (hb : G.2.2.1 15 < 2 ^ 31) (v : Nat) (hv : v < 3) : MI l yL_people cL_people 2 (some FieldType.int) { frames := 1, cells := 0, slots := 0, locals := 30 } [.ref (G.2.2.1 14), .int (nI v)] G W (fun r9 (_ : Unit) => r9 = nI (peopleN G v)) (fun _ => W) := by
  refine jm_i (own := RL) (by decide) rfl (Nat.le_of_ble_eq_true rfl) (fun x hl hC hR hN => ?_)
  subst hl
  refine J_iconst (v := 1) hC dL_people_0 rfl ?_
  refine J_aload_n hC dL_people_1 0 rfl rfl ?_
  refine J_iconst (v := 2) hC dL_people_2 rfl ?_
  refine J_iload_n hC dL_people_3 1 rfl rfl ?_
  refine J_iadd (v := nI (2 + v)) hC dL_people_4 (nI_add 2 v) ?_
  refine J_callSi hC dL_people_5 wl_L_33 wi_L yi_L_cell (c_L_cell _ G W hb (2 + v) (by omega)) rfl rfl ⟨Nat.le_of_ble_eq_true rfl, Nat.le_of_ble_eq_true rfl⟩ (Nat.le_of_ble_eq_true rfl) (Nat.le_of_ble_eq_true rfl) (Nat.le_of_ble_eq_true rfl) (fun r9 u9 h9 => ?_)
  subst h9
  have hs := scN_lt G (2 + v)
  refine J_bipush (v := 99) hC dL_people_8 rfl ?_
  refine J_irem (v := nI (scN G (2 + v) % 99)) hC dL_people_10 (by decide) (nMd (by omega) (by decide) (by decide)) ?_
  refine J_iadd (v := nI (1 + scN G (2 + v) % 99)) hC dL_people_11 (nI_add 1 (scN G (2 + v) % 99)) ?_
  exact J_iret hC hR dL_people_12 rfl () rfl rfl (by decide) (by decide)

set_option maxRecDepth 100000 in
theorem c_L_trust (l : Launch) (G : gT) (W : va_W) (hb : G.2.2.1 15 < 2 ^ 31) (v : Nat) (hv : v < 3) : MI l yL_trust cL_trust 2 (some FieldType.int) { frames := 1, cells := 0, slots := 0, locals := 30 } [.ref (G.2.2.1 14), .int (nI v)] G W (fun r9 (_ : Unit) => r9 = nI (trustN G v)) (fun _ => W) := by
  refine jm_i (own := RL) (by decide) rfl (Nat.le_of_ble_eq_true rfl) (fun x hl hC hR hN => ?_)
  subst hl
  refine J_aload_n hC dL_trust_0 0 rfl rfl ?_
  refine J_iconst (v := 2) hC dL_trust_1 rfl ?_
  refine J_iload_n hC dL_trust_2 1 rfl rfl ?_
  refine J_iadd (v := nI (2 + v)) hC dL_trust_3 (nI_add 2 v) ?_
  refine J_callSi hC dL_trust_4 wl_L_33 wi_L yi_L_cell (c_L_cell _ G W hb (2 + v) (by omega)) rfl rfl ⟨Nat.le_of_ble_eq_true rfl, Nat.le_of_ble_eq_true rfl⟩ (Nat.le_of_ble_eq_true rfl) (Nat.le_of_ble_eq_true rfl) (Nat.le_of_ble_eq_true rfl) (fun r9 u9 h9 => ?_)
  subst h9
  have hs := scN_lt G (2 + v)
  refine J_sipush (v := 128) hC dL_trust_7 rfl ?_
  refine J_idiv (v := nI (scN G (2 + v) / 128)) hC dL_trust_10 (by decide) (nDv (by omega) (by decide) (by decide)) ?_
  refine J_bipush (v := 101) hC dL_trust_11 rfl ?_
  refine J_irem (v := nI (scN G (2 + v) / 128 % 101)) hC dL_trust_13 (by decide) (nMd (by omega) (by decide) (by decide)) ?_
  exact J_iret hC hR dL_trust_14 rfl () rfl rfl (by decide) (by decide)

set_option maxRecDepth 100000 in
theorem c_L_place (l : Launch) (G : gT) (W : va_W) (hb : G.2.2.1 15 < 2 ^ 31) (v : Nat) (hv : v < 3) : MI l yL_place cL_place 2 (some FieldType.int) { frames := 1, cells := 0, slots := 0, locals := 30 } [.ref (G.2.2.1 14), .int (nI v)] G W (fun r9 (_ : Unit) => r9 = nI (placeN G v)) (fun _ => W) := by
  refine jm_i (own := RL) (by decide) rfl (Nat.le_of_ble_eq_true rfl) (fun x hl hC hR hN => ?_)
  subst hl
  refine J_aload_n hC dL_place_0 0 rfl rfl ?_
  refine J_iconst (v := 5) hC dL_place_1 rfl ?_
  refine J_iload_n hC dL_place_2 1 rfl rfl ?_
  refine J_iadd (v := nI (5 + v)) hC dL_place_3 (nI_add 5 v) ?_
  refine J_callSi hC dL_place_4 wl_L_33 wi_L yi_L_cell (c_L_cell _ G W hb (5 + v) (by omega)) rfl rfl ⟨Nat.le_of_ble_eq_true rfl, Nat.le_of_ble_eq_true rfl⟩ (Nat.le_of_ble_eq_true rfl) (Nat.le_of_ble_eq_true rfl) (Nat.le_of_ble_eq_true rfl) (fun r9 u9 h9 => ?_)
  subst h9
  have hs := scN_lt G (5 + v)
  refine J_iconst (v := 3) hC dL_place_7 rfl ?_
  refine J_irem (v := nI (scN G (5 + v) % 3)) hC dL_place_8 (by decide) (nMd (by omega) (by decide) (by decide)) ?_
  exact J_iret hC hR dL_place_9 rfl () rfl rfl (by decide) (by decide)

set_option maxRecDepth 100000 in
theorem c_L_period (l : Launch) (G : gT) (W : va_W) (hb : G.2.2.1 15 < 2 ^ 31) (v : Nat) (hv : v < 3) : MI l yL_period cL_period 2 (some FieldType.int) { frames := 1, cells := 0, slots := 0, locals := 30 } [.ref (G.2.2.1 14), .int (nI v)] G W (fun r9 (_ : Unit) => r9 = nI (periodN G v)) (fun _ => W) := by
  refine jm_i (own := RL) (by decide) rfl (Nat.le_of_ble_eq_true rfl) (fun x hl hC hR hN => ?_)
  subst hl
  refine J_iconst (v := 1) hC dL_period_0 rfl ?_
  refine J_aload_n hC dL_period_1 0 rfl rfl ?_
  refine J_iconst (v := 5) hC dL_period_2 rfl ?_
  refine J_iload_n hC dL_period_3 1 rfl rfl ?_
  refine J_iadd (v := nI (5 + v)) hC dL_period_4 (nI_add 5 v) ?_
  refine J_callSi hC dL_period_5 wl_L_33 wi_L yi_L_cell (c_L_cell _ G W hb (5 + v) (by omega)) rfl rfl ⟨Nat.le_of_ble_eq_true rfl, Nat.le_of_ble_eq_true rfl⟩ (Nat.le_of_ble_eq_true rfl) (Nat.le_of_ble_eq_true rfl) (Nat.le_of_ble_eq_true rfl) (fun r9 u9 h9 => ?_)
  subst h9
  have hs := scN_lt G (5 + v)
  refine J_iconst (v := 4) hC dL_period_8 rfl ?_
  refine J_idiv (v := nI (scN G (5 + v) / 4)) hC dL_period_9 (by decide) (nDv (by omega) (by decide) (by decide)) ?_
  refine J_bipush (v := 12) hC dL_period_10 rfl ?_
  refine J_irem (v := nI (scN G (5 + v) / 4 % 12)) hC dL_period_12 (by decide) (nMd (by omega) (by decide) (by decide)) ?_
  refine J_iadd (v := nI (1 + scN G (5 + v) / 4 % 12)) hC dL_period_13 (nI_add 1 (scN G (5 + v) / 4 % 12)) ?_
  exact J_iret hC hR dL_period_14 rfl () rfl rfl (by decide) (by decide)

set_option maxRecDepth 100000 in
theorem c_L_stock (l : Launch) (G : gT) (W : va_W) (hb : G.2.2.1 15 < 2 ^ 31) (v : Nat) (hv : v < 3) : MI l yL_stock cL_stock 2 (some FieldType.int) { frames := 1, cells := 0, slots := 0, locals := 30 } [.ref (G.2.2.1 14), .int (nI v)] G W (fun r9 (_ : Unit) => r9 = nI (stockN G v)) (fun _ => W) := by
  refine jm_i (own := RL) (by decide) rfl (Nat.le_of_ble_eq_true rfl) (fun x hl hC hR hN => ?_)
  subst hl
  refine J_iconst (v := 1) hC dL_stock_0 rfl ?_
  refine J_aload_n hC dL_stock_1 0 rfl rfl ?_
  refine J_iconst (v := 5) hC dL_stock_2 rfl ?_
  refine J_iload_n hC dL_stock_3 1 rfl rfl ?_
  refine J_iadd (v := nI (5 + v)) hC dL_stock_4 (nI_add 5 v) ?_
  refine J_callSi hC dL_stock_5 wl_L_33 wi_L yi_L_cell (c_L_cell _ G W hb (5 + v) (by omega)) rfl rfl ⟨Nat.le_of_ble_eq_true rfl, Nat.le_of_ble_eq_true rfl⟩ (Nat.le_of_ble_eq_true rfl) (Nat.le_of_ble_eq_true rfl) (Nat.le_of_ble_eq_true rfl) (fun r9 u9 h9 => ?_)
  subst h9
  have hs := scN_lt G (5 + v)
  refine J_bipush (v := 64) hC dL_stock_8 rfl ?_
  refine J_idiv (v := nI (scN G (5 + v) / 64)) hC dL_stock_10 (by decide) (nDv (by omega) (by decide) (by decide)) ?_
  refine J_bipush (v := 40) hC dL_stock_11 rfl ?_
  refine J_irem (v := nI (scN G (5 + v) / 64 % 40)) hC dL_stock_13 (by decide) (nMd (by omega) (by decide) (by decide)) ?_
  refine J_iadd (v := nI (1 + scN G (5 + v) / 64 % 40)) hC dL_stock_14 (nI_add 1 (scN G (5 + v) / 64 % 40)) ?_
  exact J_iret hC hR dL_stock_15 rfl () rfl rfl (by decide) (by decide)

set_option maxRecDepth 100000 in
theorem c_L_price (l : Launch) (G : gT) (W : va_W) (hb : G.2.2.1 15 < 2 ^ 31) (v : Nat) (hv : v < 3) : MI l yL_price cL_price 2 (some FieldType.int) { frames := 1, cells := 0, slots := 0, locals := 30 } [.ref (G.2.2.1 14), .int (nI v)] G W (fun r9 (_ : Unit) => r9 = nI (priceN G v)) (fun _ => W) := by
  refine jm_i (own := RL) (by decide) rfl (Nat.le_of_ble_eq_true rfl) (fun x hl hC hR hN => ?_)
  subst hl
  refine J_iconst (v := 1) hC dL_price_0 rfl ?_
  refine J_aload_n hC dL_price_1 0 rfl rfl ?_
  refine J_iconst (v := 5) hC dL_price_2 rfl ?_
  refine J_iload_n hC dL_price_3 1 rfl rfl ?_
  refine J_iadd (v := nI (5 + v)) hC dL_price_4 (nI_add 5 v) ?_
  refine J_callSi hC dL_price_5 wl_L_33 wi_L yi_L_cell (c_L_cell _ G W hb (5 + v) (by omega)) rfl rfl ⟨Nat.le_of_ble_eq_true rfl, Nat.le_of_ble_eq_true rfl⟩ (Nat.le_of_ble_eq_true rfl) (Nat.le_of_ble_eq_true rfl) (Nat.le_of_ble_eq_true rfl) (fun r9 u9 h9 => ?_)
  subst h9
  have hs := scN_lt G (5 + v)
  refine J_sipush (v := 4096) hC dL_price_8 rfl ?_
  refine J_idiv (v := nI (scN G (5 + v) / 4096)) hC dL_price_11 (by decide) (nDv (by omega) (by decide) (by decide)) ?_
  refine J_bipush (v := 20) hC dL_price_12 rfl ?_
  refine J_irem (v := nI (scN G (5 + v) / 4096 % 20)) hC dL_price_14 (by decide) (nMd (by omega) (by decide) (by decide)) ?_
  refine J_iadd (v := nI (1 + scN G (5 + v) / 4096 % 20)) hC dL_price_15 (nI_add 1 (scN G (5 + v) / 4096 % 20)) ?_
  exact J_iret hC hR dL_price_16 rfl () rfl rfl (by decide) (by decide)

/-! THE HAND: its constructor -/
def hSv (G : gT) (k : Nat) (S : CT) : CT := us (us (us S 8 k (nI (oddsN G k))) 1 k (nI (peopleN G k))) 2 k (nI (trustN G k))
def hSf (G : gT) (k : Nat) (S : CT) : CT := us (us (us (us S 4 k (nI (placeN G k))) 5 k (nI (periodN G k))) 6 k (nI (stockN G k))) 7 k (nI (priceN G k))
def hS0 (G : gT) : CT := us Z0 16 11 (nI (scN G 0 % 1024))
def hSi (G : gT) : CT := hSf G 1 (hSf G 0 (hSv G 2 (hSv G 1 (hSv G 0 (hS0 G)))))
set_option maxHeartbeats 4000000 in
set_option maxRecDepth 100000 in
theorem c_X11_init (l : Launch) (G : gT) (v : Nat) (hb : G.2.2.1 15 < 2 ^ 31) : MV l yX11_init cX11_init 3 { frames := 2, cells := 10, slots := 20, locals := 60 } [.ref v, .ref (G.2.2.1 14)] G ([(v, .inr (11, [.null, .null, .null, .null, .null, .null, .null, .null, .null, .null, .int 0, .int 0, .int 0, .int 0, .int 0, .int 0]))]) (fun (u : Nat → Nat) => u 0 = v) (fun u => hdW G u (fun _ => 0) 0 0 (hSi G)) := by
  refine jm_v (own := RX11) (by decide) rfl (Nat.le_of_ble_eq_true rfl) (fun x hl hC hR hN => ?_)
  subst hl
  refine J_aload_n hC dX11_init_0 0 rfl rfl ?_
  refine J_oinit hC dX11_init_1 wl_X11_1 (by decide) (by decide) ?_
  refine J_aload_n hC dX11_init_4 0 rfl rfl ?_
  refine J_iconst (v := nI 3) hC dX11_init_5 rfl ?_
  refine J_newI hC dX11_init_6 (by decide) (Nat.le_of_ble_eq_true rfl) (Nat.le_of_ble_eq_true rfl) (fun q0 => ?_)
  refine J_wq (show _ = [(v, .inr (11, [.null, .null, .null, .null, .null, .null, .null, .null, .null, .null, .int 0, .int 0, .int 0, .int 0, .int 0, .int 0])), (q0, .inl (gc G 0, 3, .inl (fun _ => 0)))] from rfl) ?_
  refine J_putF (ws' := [(v, .inr (11, [.ref q0, .null, .null, .null, .null, .null, .null, .null, .null, .null, .int 0, .int 0, .int 0, .int 0, .int 0, .int 0])), (q0, .inl (gc G 0, 3, .inl (fun _ => 0)))]) hC wu_X11 rfl tyX11_ok nmX11 hN dX11_init_8 0 0 (by decide) wf_X11_7 rfl rfl rfl (Nat.le_of_ble_eq_true rfl) rfl rfl rfl ?_
  refine J_aload_n hC dX11_init_11 0 rfl rfl ?_
  refine J_iconst (v := nI 3) hC dX11_init_12 rfl ?_
  refine J_newI hC dX11_init_13 (by decide) (Nat.le_of_ble_eq_true rfl) (Nat.le_of_ble_eq_true rfl) (fun q1 => ?_)
  refine J_wq (show _ = [(v, .inr (11, [.ref q0, .null, .null, .null, .null, .null, .null, .null, .null, .null, .int 0, .int 0, .int 0, .int 0, .int 0, .int 0])), (q0, .inl (gc G 0, 3, .inl (fun _ => 0))), (q1, .inl (gc G 0, 3, .inl (fun _ => 0)))] from rfl) ?_
  refine J_putF (ws' := [(v, .inr (11, [.ref q0, .ref q1, .null, .null, .null, .null, .null, .null, .null, .null, .int 0, .int 0, .int 0, .int 0, .int 0, .int 0])), (q0, .inl (gc G 0, 3, .inl (fun _ => 0))), (q1, .inl (gc G 0, 3, .inl (fun _ => 0)))]) hC wu_X11 rfl tyX11_ok nmX11 hN dX11_init_15 0 1 (by decide) wf_X11_13 rfl rfl rfl (Nat.le_of_ble_eq_true rfl) rfl rfl rfl ?_
  refine J_aload_n hC dX11_init_18 0 rfl rfl ?_
  refine J_iconst (v := nI 3) hC dX11_init_19 rfl ?_
  refine J_newI hC dX11_init_20 (by decide) (Nat.le_of_ble_eq_true rfl) (Nat.le_of_ble_eq_true rfl) (fun q2 => ?_)
  refine J_wq (show _ = [(v, .inr (11, [.ref q0, .ref q1, .null, .null, .null, .null, .null, .null, .null, .null, .int 0, .int 0, .int 0, .int 0, .int 0, .int 0])), (q0, .inl (gc G 0, 3, .inl (fun _ => 0))), (q1, .inl (gc G 0, 3, .inl (fun _ => 0))), (q2, .inl (gc G 0, 3, .inl (fun _ => 0)))] from rfl) ?_
  refine J_putF (ws' := [(v, .inr (11, [.ref q0, .ref q1, .ref q2, .null, .null, .null, .null, .null, .null, .null, .int 0, .int 0, .int 0, .int 0, .int 0, .int 0])), (q0, .inl (gc G 0, 3, .inl (fun _ => 0))), (q1, .inl (gc G 0, 3, .inl (fun _ => 0))), (q2, .inl (gc G 0, 3, .inl (fun _ => 0)))]) hC wu_X11 rfl tyX11_ok nmX11 hN dX11_init_22 0 2 (by decide) wf_X11_16 rfl rfl rfl (Nat.le_of_ble_eq_true rfl) rfl rfl rfl ?_
  refine J_aload_n hC dX11_init_25 0 rfl rfl ?_
  refine J_iconst (v := nI 3) hC dX11_init_26 rfl ?_
  refine J_newI hC dX11_init_27 (by decide) (Nat.le_of_ble_eq_true rfl) (Nat.le_of_ble_eq_true rfl) (fun q3 => ?_)
  refine J_wq (show _ = [(v, .inr (11, [.ref q0, .ref q1, .ref q2, .null, .null, .null, .null, .null, .null, .null, .int 0, .int 0, .int 0, .int 0, .int 0, .int 0])), (q0, .inl (gc G 0, 3, .inl (fun _ => 0))), (q1, .inl (gc G 0, 3, .inl (fun _ => 0))), (q2, .inl (gc G 0, 3, .inl (fun _ => 0))), (q3, .inl (gc G 0, 3, .inl (fun _ => 0)))] from rfl) ?_
  refine J_putF (ws' := [(v, .inr (11, [.ref q0, .ref q1, .ref q2, .ref q3, .null, .null, .null, .null, .null, .null, .int 0, .int 0, .int 0, .int 0, .int 0, .int 0])), (q0, .inl (gc G 0, 3, .inl (fun _ => 0))), (q1, .inl (gc G 0, 3, .inl (fun _ => 0))), (q2, .inl (gc G 0, 3, .inl (fun _ => 0))), (q3, .inl (gc G 0, 3, .inl (fun _ => 0)))]) hC wu_X11 rfl tyX11_ok nmX11 hN dX11_init_29 0 3 (by decide) wf_X11_19 rfl rfl rfl (Nat.le_of_ble_eq_true rfl) rfl rfl rfl ?_
  refine J_aload_n hC dX11_init_32 0 rfl rfl ?_
  refine J_iconst (v := nI 2) hC dX11_init_33 rfl ?_
  refine J_newI hC dX11_init_34 (by decide) (Nat.le_of_ble_eq_true rfl) (Nat.le_of_ble_eq_true rfl) (fun q4 => ?_)
  refine J_wq (show _ = [(v, .inr (11, [.ref q0, .ref q1, .ref q2, .ref q3, .null, .null, .null, .null, .null, .null, .int 0, .int 0, .int 0, .int 0, .int 0, .int 0])), (q0, .inl (gc G 0, 3, .inl (fun _ => 0))), (q1, .inl (gc G 0, 3, .inl (fun _ => 0))), (q2, .inl (gc G 0, 3, .inl (fun _ => 0))), (q3, .inl (gc G 0, 3, .inl (fun _ => 0))), (q4, .inl (gc G 0, 2, .inl (fun _ => 0)))] from rfl) ?_
  refine J_putF (ws' := [(v, .inr (11, [.ref q0, .ref q1, .ref q2, .ref q3, .ref q4, .null, .null, .null, .null, .null, .int 0, .int 0, .int 0, .int 0, .int 0, .int 0])), (q0, .inl (gc G 0, 3, .inl (fun _ => 0))), (q1, .inl (gc G 0, 3, .inl (fun _ => 0))), (q2, .inl (gc G 0, 3, .inl (fun _ => 0))), (q3, .inl (gc G 0, 3, .inl (fun _ => 0))), (q4, .inl (gc G 0, 2, .inl (fun _ => 0)))]) hC wu_X11 rfl tyX11_ok nmX11 hN dX11_init_36 0 4 (by decide) wf_X11_22 rfl rfl rfl (Nat.le_of_ble_eq_true rfl) rfl rfl rfl ?_
  refine J_aload_n hC dX11_init_39 0 rfl rfl ?_
  refine J_iconst (v := nI 2) hC dX11_init_40 rfl ?_
  refine J_newI hC dX11_init_41 (by decide) (Nat.le_of_ble_eq_true rfl) (Nat.le_of_ble_eq_true rfl) (fun q5 => ?_)
  refine J_wq (show _ = [(v, .inr (11, [.ref q0, .ref q1, .ref q2, .ref q3, .ref q4, .null, .null, .null, .null, .null, .int 0, .int 0, .int 0, .int 0, .int 0, .int 0])), (q0, .inl (gc G 0, 3, .inl (fun _ => 0))), (q1, .inl (gc G 0, 3, .inl (fun _ => 0))), (q2, .inl (gc G 0, 3, .inl (fun _ => 0))), (q3, .inl (gc G 0, 3, .inl (fun _ => 0))), (q4, .inl (gc G 0, 2, .inl (fun _ => 0))), (q5, .inl (gc G 0, 2, .inl (fun _ => 0)))] from rfl) ?_
  refine J_putF (ws' := [(v, .inr (11, [.ref q0, .ref q1, .ref q2, .ref q3, .ref q4, .ref q5, .null, .null, .null, .null, .int 0, .int 0, .int 0, .int 0, .int 0, .int 0])), (q0, .inl (gc G 0, 3, .inl (fun _ => 0))), (q1, .inl (gc G 0, 3, .inl (fun _ => 0))), (q2, .inl (gc G 0, 3, .inl (fun _ => 0))), (q3, .inl (gc G 0, 3, .inl (fun _ => 0))), (q4, .inl (gc G 0, 2, .inl (fun _ => 0))), (q5, .inl (gc G 0, 2, .inl (fun _ => 0)))]) hC wu_X11 rfl tyX11_ok nmX11 hN dX11_init_43 0 5 (by decide) wf_X11_25 rfl rfl rfl (Nat.le_of_ble_eq_true rfl) rfl rfl rfl ?_
  refine J_aload_n hC dX11_init_46 0 rfl rfl ?_
  refine J_iconst (v := nI 2) hC dX11_init_47 rfl ?_
  refine J_newI hC dX11_init_48 (by decide) (Nat.le_of_ble_eq_true rfl) (Nat.le_of_ble_eq_true rfl) (fun q6 => ?_)
  refine J_wq (show _ = [(v, .inr (11, [.ref q0, .ref q1, .ref q2, .ref q3, .ref q4, .ref q5, .null, .null, .null, .null, .int 0, .int 0, .int 0, .int 0, .int 0, .int 0])), (q0, .inl (gc G 0, 3, .inl (fun _ => 0))), (q1, .inl (gc G 0, 3, .inl (fun _ => 0))), (q2, .inl (gc G 0, 3, .inl (fun _ => 0))), (q3, .inl (gc G 0, 3, .inl (fun _ => 0))), (q4, .inl (gc G 0, 2, .inl (fun _ => 0))), (q5, .inl (gc G 0, 2, .inl (fun _ => 0))), (q6, .inl (gc G 0, 2, .inl (fun _ => 0)))] from rfl) ?_
  refine J_putF (ws' := [(v, .inr (11, [.ref q0, .ref q1, .ref q2, .ref q3, .ref q4, .ref q5, .ref q6, .null, .null, .null, .int 0, .int 0, .int 0, .int 0, .int 0, .int 0])), (q0, .inl (gc G 0, 3, .inl (fun _ => 0))), (q1, .inl (gc G 0, 3, .inl (fun _ => 0))), (q2, .inl (gc G 0, 3, .inl (fun _ => 0))), (q3, .inl (gc G 0, 3, .inl (fun _ => 0))), (q4, .inl (gc G 0, 2, .inl (fun _ => 0))), (q5, .inl (gc G 0, 2, .inl (fun _ => 0))), (q6, .inl (gc G 0, 2, .inl (fun _ => 0)))]) hC wu_X11 rfl tyX11_ok nmX11 hN dX11_init_50 0 6 (by decide) wf_X11_28 rfl rfl rfl (Nat.le_of_ble_eq_true rfl) rfl rfl rfl ?_
  refine J_aload_n hC dX11_init_53 0 rfl rfl ?_
  refine J_iconst (v := nI 2) hC dX11_init_54 rfl ?_
  refine J_newI hC dX11_init_55 (by decide) (Nat.le_of_ble_eq_true rfl) (Nat.le_of_ble_eq_true rfl) (fun q7 => ?_)
  refine J_wq (show _ = [(v, .inr (11, [.ref q0, .ref q1, .ref q2, .ref q3, .ref q4, .ref q5, .ref q6, .null, .null, .null, .int 0, .int 0, .int 0, .int 0, .int 0, .int 0])), (q0, .inl (gc G 0, 3, .inl (fun _ => 0))), (q1, .inl (gc G 0, 3, .inl (fun _ => 0))), (q2, .inl (gc G 0, 3, .inl (fun _ => 0))), (q3, .inl (gc G 0, 3, .inl (fun _ => 0))), (q4, .inl (gc G 0, 2, .inl (fun _ => 0))), (q5, .inl (gc G 0, 2, .inl (fun _ => 0))), (q6, .inl (gc G 0, 2, .inl (fun _ => 0))), (q7, .inl (gc G 0, 2, .inl (fun _ => 0)))] from rfl) ?_
  refine J_putF (ws' := [(v, .inr (11, [.ref q0, .ref q1, .ref q2, .ref q3, .ref q4, .ref q5, .ref q6, .ref q7, .null, .null, .int 0, .int 0, .int 0, .int 0, .int 0, .int 0])), (q0, .inl (gc G 0, 3, .inl (fun _ => 0))), (q1, .inl (gc G 0, 3, .inl (fun _ => 0))), (q2, .inl (gc G 0, 3, .inl (fun _ => 0))), (q3, .inl (gc G 0, 3, .inl (fun _ => 0))), (q4, .inl (gc G 0, 2, .inl (fun _ => 0))), (q5, .inl (gc G 0, 2, .inl (fun _ => 0))), (q6, .inl (gc G 0, 2, .inl (fun _ => 0))), (q7, .inl (gc G 0, 2, .inl (fun _ => 0)))]) hC wu_X11 rfl tyX11_ok nmX11 hN dX11_init_57 0 7 (by decide) wf_X11_31 rfl rfl rfl (Nat.le_of_ble_eq_true rfl) rfl rfl rfl ?_
  refine J_aload_n hC dX11_init_60 0 rfl rfl ?_
  refine J_iconst (v := nI 0) hC dX11_init_61 rfl ?_
  refine J_newG hC dX11_init_62 wk_X11_34 (by decide) (Nat.le_of_ble_eq_true rfl) (Nat.le_of_ble_eq_true rfl) (fun q8 => ?_)
  refine J_wq (show _ = [(v, .inr (11, [.ref q0, .ref q1, .ref q2, .ref q3, .ref q4, .ref q5, .ref q6, .ref q7, .null, .null, .int 0, .int 0, .int 0, .int 0, .int 0, .int 0])), (q0, .inl (gc G 0, 3, .inl (fun _ => 0))), (q1, .inl (gc G 0, 3, .inl (fun _ => 0))), (q2, .inl (gc G 0, 3, .inl (fun _ => 0))), (q3, .inl (gc G 0, 3, .inl (fun _ => 0))), (q4, .inl (gc G 0, 2, .inl (fun _ => 0))), (q5, .inl (gc G 0, 2, .inl (fun _ => 0))), (q6, .inl (gc G 0, 2, .inl (fun _ => 0))), (q7, .inl (gc G 0, 2, .inl (fun _ => 0))), (q8, .inl (gc G 4, 0, .inr (.inr (.inr (.inr (fun _ => none))))))] from rfl) ?_
  refine J_put (ws' := [(v, .inr (11, [.ref q0, .ref q1, .ref q2, .ref q3, .ref q4, .ref q5, .ref q6, .ref q7, .ref q8, .null, .int 0, .int 0, .int 0, .int 0, .int 0, .int 0])), (q0, .inl (gc G 0, 3, .inl (fun _ => 0))), (q1, .inl (gc G 0, 3, .inl (fun _ => 0))), (q2, .inl (gc G 0, 3, .inl (fun _ => 0))), (q3, .inl (gc G 0, 3, .inl (fun _ => 0))), (q4, .inl (gc G 0, 2, .inl (fun _ => 0))), (q5, .inl (gc G 0, 2, .inl (fun _ => 0))), (q6, .inl (gc G 0, 2, .inl (fun _ => 0))), (q7, .inl (gc G 0, 2, .inl (fun _ => 0))), (q8, .inl (gc G 4, 0, .inr (.inr (.inr (.inr (fun _ => none))))))]) hC wu_X11 rfl tyX11_ok nmX11 dX11_init_65 0 8 (by decide) wf_X11_35 rfl rfl (Nat.le_of_ble_eq_true rfl) rfl rfl rfl ?_
  refine J_aload_n hC dX11_init_68 0 rfl rfl ?_
  refine J_iconst (v := nI 0) hC dX11_init_69 rfl ?_
  refine J_newI hC dX11_init_70 (by decide) (Nat.le_of_ble_eq_true rfl) (Nat.le_of_ble_eq_true rfl) (fun q9 => ?_)
  refine J_wq (show _ = [(v, .inr (11, [.ref q0, .ref q1, .ref q2, .ref q3, .ref q4, .ref q5, .ref q6, .ref q7, .ref q8, .null, .int 0, .int 0, .int 0, .int 0, .int 0, .int 0])), (q0, .inl (gc G 0, 3, .inl (fun _ => 0))), (q1, .inl (gc G 0, 3, .inl (fun _ => 0))), (q2, .inl (gc G 0, 3, .inl (fun _ => 0))), (q3, .inl (gc G 0, 3, .inl (fun _ => 0))), (q4, .inl (gc G 0, 2, .inl (fun _ => 0))), (q5, .inl (gc G 0, 2, .inl (fun _ => 0))), (q6, .inl (gc G 0, 2, .inl (fun _ => 0))), (q7, .inl (gc G 0, 2, .inl (fun _ => 0))), (q8, .inl (gc G 4, 0, .inr (.inr (.inr (.inr (fun _ => none)))))), (q9, .inl (gc G 0, 0, .inl (fun _ => 0)))] from rfl) ?_
  refine J_put (ws' := [(v, .inr (11, [.ref q0, .ref q1, .ref q2, .ref q3, .ref q4, .ref q5, .ref q6, .ref q7, .ref q8, .ref q9, .int 0, .int 0, .int 0, .int 0, .int 0, .int 0])), (q0, .inl (gc G 0, 3, .inl (fun _ => 0))), (q1, .inl (gc G 0, 3, .inl (fun _ => 0))), (q2, .inl (gc G 0, 3, .inl (fun _ => 0))), (q3, .inl (gc G 0, 3, .inl (fun _ => 0))), (q4, .inl (gc G 0, 2, .inl (fun _ => 0))), (q5, .inl (gc G 0, 2, .inl (fun _ => 0))), (q6, .inl (gc G 0, 2, .inl (fun _ => 0))), (q7, .inl (gc G 0, 2, .inl (fun _ => 0))), (q8, .inl (gc G 4, 0, .inr (.inr (.inr (.inr (fun _ => none)))))), (q9, .inl (gc G 0, 0, .inl (fun _ => 0)))]) hC wu_X11 rfl tyX11_ok nmX11 dX11_init_72 0 9 (by decide) wf_X11_39 rfl rfl (Nat.le_of_ble_eq_true rfl) rfl rfl rfl ?_
  obtain ⟨h, e0, e1, e2, e3, e4, e5, e6, e7, e8, e9, e10⟩ : ∃ h : Nat → Nat, h 0 = v ∧ h 1 = q0 ∧ h 2 = q1 ∧ h 3 = q2 ∧ h 4 = q3 ∧ h 5 = q4 ∧ h 6 = q5 ∧ h 7 = q6 ∧ h 8 = q7 ∧ h 9 = q8 ∧ h 10 = q9 := ⟨fun i => [v, q0, q1, q2, q3, q4, q5, q6, q7, q8, q9].getD i 0, rfl, rfl, rfl, rfl, rfl, rfl, rfl, rfl, rfl, rfl, rfl⟩
  subst e0 e1 e2 e3 e4 e5 e6 e7 e8 e9 e10
  refine J_wEq (ws' := hdW G h (fun _ => 0) 0 0 Z0) ⟨rfl, fun _ _ _ h => h, rfl, fun _ _ _ h => h, rfl, fun _ _ _ h => h, rfl, fun _ _ _ h => h, rfl, fun _ _ _ h => h, rfl, fun _ _ _ h => h, rfl, fun _ _ _ h => h, rfl, fun _ _ _ h => h, rfl, fun _ _ _ h => h, rfl, fun D cl H => va_at_congq (fun j hj => absurd hj (Nat.not_lt_zero _)), rfl, fun _ _ _ h => h, trivial⟩ ?_
  refine J_aload_n hC dX11_init_75 0 rfl rfl ?_
  refine J_aload_n hC dX11_init_76 1 rfl rfl ?_
  refine J_iconst (v := 0) hC dX11_init_77 rfl ?_
  refine J_callSNi hC dX11_init_78 wln_X11_42 yi_L_cell (c_L_cell _ G (hdW G h (fun _ => 0) 0 0 Z0) hb 0 (by decide)) rfl rfl ⟨Nat.le_of_ble_eq_true rfl, Nat.le_of_ble_eq_true rfl⟩ (Nat.le_of_ble_eq_true rfl) (Nat.le_of_ble_eq_true rfl) (Nat.le_of_ble_eq_true rfl) (fun r9 u9 h9 => ?_)
  subst h9
  have hs0 := scN_lt G 0
  refine J_sipush (v := 1024) hC dX11_init_81 rfl ?_
  refine J_irem (v := nI (scN G 0 % 1024)) hC dX11_init_84 (by decide) (nMd (by omega) (by decide) (by decide)) ?_
  refine J_put (ws' := hdW G h (fun _ => 0) 0 0 (hS0 G)) hC wu_X11 rfl tyX11_ok nmX11 dX11_init_85 0 10 (by decide) wf_X11_48 rfl rfl (Nat.le_of_ble_eq_true rfl) rfl rfl rfl ?_
  obtain ⟨S0, hS0⟩ : ∃ z, z = hS0 G := ⟨_, rfl⟩
  rw [← hS0]
  refine J_iconst (v := 0) hC dX11_init_88 rfl ?_
  refine J_istore_n hC [(2, .int 0), (0, .ref (h 0)), (1, .ref (G.2.2.1 14))] dX11_init_89 rfl (by decide) rfl ?_
  refine J_iload_n hC dX11_init_90 0 rfl rfl ?_
  refine J_iconst (v := 3) hC dX11_init_91 rfl ?_
  refine J_ic_ge (tgt := 134) hC dX11_init_92 (by decide) (fun c => absurd c (by decide)) (fun _ => ?_)
  refine J_aload_n hC dX11_init_95 1 rfl rfl ?_
  refine J_get (v := .ref (h 3)) hC wu_X11 rfl dX11_init_96 0 2 (by decide) wf_X11_16 rfl rfl ?_
  refine J_iload_n hC dX11_init_99 0 rfl rfl ?_
  refine J_aload_n hC dX11_init_100 2 rfl rfl ?_
  refine J_iload_n hC dX11_init_101 0 rfl rfl ?_
  refine J_callSNi hC dX11_init_102 wln_X11_52 yi_L_odds (c_L_odds _ G (hdW G h (fun _ => 0) 0 0 S0) hb 0 (by decide)) rfl rfl ⟨Nat.le_of_ble_eq_true rfl, Nat.le_of_ble_eq_true rfl⟩ (Nat.le_of_ble_eq_true rfl) (Nat.le_of_ble_eq_true rfl) (Nat.le_of_ble_eq_true rfl) (fun r9 u9 h9 => ?_)
  subst h9
  refine J_iast (i := 0) (ws' := hdW G h (fun _ => 0) 0 0 (us S0 8 0 (nI (oddsN G 0)))) hC dX11_init_105 3 rfl (by decide) (by decide) rfl ?_
  refine J_aload_n hC dX11_init_106 1 rfl rfl ?_
  refine J_get (v := .ref (h 1)) hC wu_X11 rfl dX11_init_107 0 0 (by decide) wf_X11_7 rfl rfl ?_
  refine J_iload_n hC dX11_init_110 0 rfl rfl ?_
  refine J_aload_n hC dX11_init_111 2 rfl rfl ?_
  refine J_iload_n hC dX11_init_112 0 rfl rfl ?_
  refine J_callSNi hC dX11_init_113 wln_X11_54 yi_L_people (c_L_people _ G (hdW G h (fun _ => 0) 0 0 (us S0 8 0 (nI (oddsN G 0)))) hb 0 (by decide)) rfl rfl ⟨Nat.le_of_ble_eq_true rfl, Nat.le_of_ble_eq_true rfl⟩ (Nat.le_of_ble_eq_true rfl) (Nat.le_of_ble_eq_true rfl) (Nat.le_of_ble_eq_true rfl) (fun r9 u9 h9 => ?_)
  subst h9
  refine J_iast (i := 0) (ws' := hdW G h (fun _ => 0) 0 0 (us (us S0 8 0 (nI (oddsN G 0))) 1 0 (nI (peopleN G 0)))) hC dX11_init_116 1 rfl (by decide) (by decide) rfl ?_
  refine J_aload_n hC dX11_init_117 1 rfl rfl ?_
  refine J_get (v := .ref (h 2)) hC wu_X11 rfl dX11_init_118 0 1 (by decide) wf_X11_13 rfl rfl ?_
  refine J_iload_n hC dX11_init_121 0 rfl rfl ?_
  refine J_aload_n hC dX11_init_122 2 rfl rfl ?_
  refine J_iload_n hC dX11_init_123 0 rfl rfl ?_
  refine J_callSNi hC dX11_init_124 wln_X11_56 yi_L_trust (c_L_trust _ G (hdW G h (fun _ => 0) 0 0 (us (us S0 8 0 (nI (oddsN G 0))) 1 0 (nI (peopleN G 0)))) hb 0 (by decide)) rfl rfl ⟨Nat.le_of_ble_eq_true rfl, Nat.le_of_ble_eq_true rfl⟩ (Nat.le_of_ble_eq_true rfl) (Nat.le_of_ble_eq_true rfl) (Nat.le_of_ble_eq_true rfl) (fun r9 u9 h9 => ?_)
  subst h9
  refine J_iast (i := 0) (ws' := hdW G h (fun _ => 0) 0 0 (us (us (us S0 8 0 (nI (oddsN G 0))) 1 0 (nI (peopleN G 0))) 2 0 (nI (trustN G 0)))) hC dX11_init_127 2 rfl (by decide) (by decide) rfl ?_
  obtain ⟨V0, hV0⟩ : ∃ z, z = hSv G 0 S0 := ⟨_, rfl⟩
  refine J_wq (show _ = hdW G h (fun _ => 0) 0 0 V0 from by rw [hV0]; rfl) ?_
  refine J_iinc hC [(2, .int 1), (0, .ref (h 0)), (1, .ref (G.2.2.1 14))] dX11_init_128 0 rfl (by decide +kernel) (by decide) rfl ?_
  refine J_goto (tgt := 90) hC dX11_init_131 (by decide) ?_
  refine J_iload_n hC dX11_init_90 0 rfl rfl ?_
  refine J_iconst (v := 3) hC dX11_init_91 rfl ?_
  refine J_ic_ge (tgt := 134) hC dX11_init_92 (by decide) (fun c => absurd c (by decide)) (fun _ => ?_)
  refine J_aload_n hC dX11_init_95 1 rfl rfl ?_
  refine J_get (v := .ref (h 3)) hC wu_X11 rfl dX11_init_96 0 2 (by decide) wf_X11_16 rfl rfl ?_
  refine J_iload_n hC dX11_init_99 0 rfl rfl ?_
  refine J_aload_n hC dX11_init_100 2 rfl rfl ?_
  refine J_iload_n hC dX11_init_101 0 rfl rfl ?_
  refine J_callSNi hC dX11_init_102 wln_X11_52 yi_L_odds (c_L_odds _ G (hdW G h (fun _ => 0) 0 0 V0) hb 1 (by decide)) rfl rfl ⟨Nat.le_of_ble_eq_true rfl, Nat.le_of_ble_eq_true rfl⟩ (Nat.le_of_ble_eq_true rfl) (Nat.le_of_ble_eq_true rfl) (Nat.le_of_ble_eq_true rfl) (fun r9 u9 h9 => ?_)
  subst h9
  refine J_iast (i := 1) (ws' := hdW G h (fun _ => 0) 0 0 (us V0 8 1 (nI (oddsN G 1)))) hC dX11_init_105 3 rfl (by decide) (by decide) rfl ?_
  refine J_aload_n hC dX11_init_106 1 rfl rfl ?_
  refine J_get (v := .ref (h 1)) hC wu_X11 rfl dX11_init_107 0 0 (by decide) wf_X11_7 rfl rfl ?_
  refine J_iload_n hC dX11_init_110 0 rfl rfl ?_
  refine J_aload_n hC dX11_init_111 2 rfl rfl ?_
  refine J_iload_n hC dX11_init_112 0 rfl rfl ?_
  refine J_callSNi hC dX11_init_113 wln_X11_54 yi_L_people (c_L_people _ G (hdW G h (fun _ => 0) 0 0 (us V0 8 1 (nI (oddsN G 1)))) hb 1 (by decide)) rfl rfl ⟨Nat.le_of_ble_eq_true rfl, Nat.le_of_ble_eq_true rfl⟩ (Nat.le_of_ble_eq_true rfl) (Nat.le_of_ble_eq_true rfl) (Nat.le_of_ble_eq_true rfl) (fun r9 u9 h9 => ?_)
  subst h9
  refine J_iast (i := 1) (ws' := hdW G h (fun _ => 0) 0 0 (us (us V0 8 1 (nI (oddsN G 1))) 1 1 (nI (peopleN G 1)))) hC dX11_init_116 1 rfl (by decide) (by decide) rfl ?_
  refine J_aload_n hC dX11_init_117 1 rfl rfl ?_
  refine J_get (v := .ref (h 2)) hC wu_X11 rfl dX11_init_118 0 1 (by decide) wf_X11_13 rfl rfl ?_
  refine J_iload_n hC dX11_init_121 0 rfl rfl ?_
  refine J_aload_n hC dX11_init_122 2 rfl rfl ?_
  refine J_iload_n hC dX11_init_123 0 rfl rfl ?_
  refine J_callSNi hC dX11_init_124 wln_X11_56 yi_L_trust (c_L_trust _ G (hdW G h (fun _ => 0) 0 0 (us (us V0 8 1 (nI (oddsN G 1))) 1 1 (nI (peopleN G 1)))) hb 1 (by decide)) rfl rfl ⟨Nat.le_of_ble_eq_true rfl, Nat.le_of_ble_eq_true rfl⟩ (Nat.le_of_ble_eq_true rfl) (Nat.le_of_ble_eq_true rfl) (Nat.le_of_ble_eq_true rfl) (fun r9 u9 h9 => ?_)
  subst h9
  refine J_iast (i := 1) (ws' := hdW G h (fun _ => 0) 0 0 (us (us (us V0 8 1 (nI (oddsN G 1))) 1 1 (nI (peopleN G 1))) 2 1 (nI (trustN G 1)))) hC dX11_init_127 2 rfl (by decide) (by decide) rfl ?_
  obtain ⟨V1, hV1⟩ : ∃ z, z = hSv G 1 V0 := ⟨_, rfl⟩
  refine J_wq (show _ = hdW G h (fun _ => 0) 0 0 V1 from by rw [hV1]; rfl) ?_
  refine J_iinc hC [(2, .int 2), (0, .ref (h 0)), (1, .ref (G.2.2.1 14))] dX11_init_128 0 rfl (by decide +kernel) (by decide) rfl ?_
  refine J_goto (tgt := 90) hC dX11_init_131 (by decide) ?_
  refine J_iload_n hC dX11_init_90 0 rfl rfl ?_
  refine J_iconst (v := 3) hC dX11_init_91 rfl ?_
  refine J_ic_ge (tgt := 134) hC dX11_init_92 (by decide) (fun c => absurd c (by decide)) (fun _ => ?_)
  refine J_aload_n hC dX11_init_95 1 rfl rfl ?_
  refine J_get (v := .ref (h 3)) hC wu_X11 rfl dX11_init_96 0 2 (by decide) wf_X11_16 rfl rfl ?_
  refine J_iload_n hC dX11_init_99 0 rfl rfl ?_
  refine J_aload_n hC dX11_init_100 2 rfl rfl ?_
  refine J_iload_n hC dX11_init_101 0 rfl rfl ?_
  refine J_callSNi hC dX11_init_102 wln_X11_52 yi_L_odds (c_L_odds _ G (hdW G h (fun _ => 0) 0 0 V1) hb 2 (by decide)) rfl rfl ⟨Nat.le_of_ble_eq_true rfl, Nat.le_of_ble_eq_true rfl⟩ (Nat.le_of_ble_eq_true rfl) (Nat.le_of_ble_eq_true rfl) (Nat.le_of_ble_eq_true rfl) (fun r9 u9 h9 => ?_)
  subst h9
  refine J_iast (i := 2) (ws' := hdW G h (fun _ => 0) 0 0 (us V1 8 2 (nI (oddsN G 2)))) hC dX11_init_105 3 rfl (by decide) (by decide) rfl ?_
  refine J_aload_n hC dX11_init_106 1 rfl rfl ?_
  refine J_get (v := .ref (h 1)) hC wu_X11 rfl dX11_init_107 0 0 (by decide) wf_X11_7 rfl rfl ?_
  refine J_iload_n hC dX11_init_110 0 rfl rfl ?_
  refine J_aload_n hC dX11_init_111 2 rfl rfl ?_
  refine J_iload_n hC dX11_init_112 0 rfl rfl ?_
  refine J_callSNi hC dX11_init_113 wln_X11_54 yi_L_people (c_L_people _ G (hdW G h (fun _ => 0) 0 0 (us V1 8 2 (nI (oddsN G 2)))) hb 2 (by decide)) rfl rfl ⟨Nat.le_of_ble_eq_true rfl, Nat.le_of_ble_eq_true rfl⟩ (Nat.le_of_ble_eq_true rfl) (Nat.le_of_ble_eq_true rfl) (Nat.le_of_ble_eq_true rfl) (fun r9 u9 h9 => ?_)
  subst h9
  refine J_iast (i := 2) (ws' := hdW G h (fun _ => 0) 0 0 (us (us V1 8 2 (nI (oddsN G 2))) 1 2 (nI (peopleN G 2)))) hC dX11_init_116 1 rfl (by decide) (by decide) rfl ?_
  refine J_aload_n hC dX11_init_117 1 rfl rfl ?_
  refine J_get (v := .ref (h 2)) hC wu_X11 rfl dX11_init_118 0 1 (by decide) wf_X11_13 rfl rfl ?_
  refine J_iload_n hC dX11_init_121 0 rfl rfl ?_
  refine J_aload_n hC dX11_init_122 2 rfl rfl ?_
  refine J_iload_n hC dX11_init_123 0 rfl rfl ?_
  refine J_callSNi hC dX11_init_124 wln_X11_56 yi_L_trust (c_L_trust _ G (hdW G h (fun _ => 0) 0 0 (us (us V1 8 2 (nI (oddsN G 2))) 1 2 (nI (peopleN G 2)))) hb 2 (by decide)) rfl rfl ⟨Nat.le_of_ble_eq_true rfl, Nat.le_of_ble_eq_true rfl⟩ (Nat.le_of_ble_eq_true rfl) (Nat.le_of_ble_eq_true rfl) (Nat.le_of_ble_eq_true rfl) (fun r9 u9 h9 => ?_)
  subst h9
  refine J_iast (i := 2) (ws' := hdW G h (fun _ => 0) 0 0 (us (us (us V1 8 2 (nI (oddsN G 2))) 1 2 (nI (peopleN G 2))) 2 2 (nI (trustN G 2)))) hC dX11_init_127 2 rfl (by decide) (by decide) rfl ?_
  obtain ⟨V2, hV2⟩ : ∃ z, z = hSv G 2 V1 := ⟨_, rfl⟩
  refine J_wq (show _ = hdW G h (fun _ => 0) 0 0 V2 from by rw [hV2]; rfl) ?_
  refine J_iinc hC [(2, .int 3), (0, .ref (h 0)), (1, .ref (G.2.2.1 14))] dX11_init_128 0 rfl (by decide +kernel) (by decide) rfl ?_
  refine J_goto (tgt := 90) hC dX11_init_131 (by decide) ?_
  refine J_iload_n hC dX11_init_90 0 rfl rfl ?_
  refine J_iconst (v := 3) hC dX11_init_91 rfl ?_
  refine J_ic_ge (tgt := 134) hC dX11_init_92 (by decide) (fun _ => ?_) (fun c => absurd (by decide) c)
  refine J_iconst (v := 0) hC dX11_init_134 rfl ?_
  refine J_istore_n hC [(2, .int 0), (0, .ref (h 0)), (1, .ref (G.2.2.1 14))] dX11_init_135 rfl (by decide) rfl ?_
  refine J_iload_n hC dX11_init_136 0 rfl rfl ?_
  refine J_iconst (v := 2) hC dX11_init_137 rfl ?_
  refine J_ic_ge (tgt := 191) hC dX11_init_138 (by decide) (fun c => absurd c (by decide)) (fun _ => ?_)
  refine J_aload_n hC dX11_init_141 1 rfl rfl ?_
  refine J_get (v := .ref (h 5)) hC wu_X11 rfl dX11_init_142 0 4 (by decide) wf_X11_22 rfl rfl ?_
  refine J_iload_n hC dX11_init_145 0 rfl rfl ?_
  refine J_aload_n hC dX11_init_146 2 rfl rfl ?_
  refine J_iload_n hC dX11_init_147 0 rfl rfl ?_
  refine J_callSNi hC dX11_init_148 wln_X11_58 yi_L_place (c_L_place _ G (hdW G h (fun _ => 0) 0 0 V2) hb 0 (by decide)) rfl rfl ⟨Nat.le_of_ble_eq_true rfl, Nat.le_of_ble_eq_true rfl⟩ (Nat.le_of_ble_eq_true rfl) (Nat.le_of_ble_eq_true rfl) (Nat.le_of_ble_eq_true rfl) (fun r9 u9 h9 => ?_)
  subst h9
  refine J_iast (i := 0) (ws' := hdW G h (fun _ => 0) 0 0 (us V2 4 0 (nI (placeN G 0)))) hC dX11_init_151 5 rfl (by decide) (by decide) rfl ?_
  refine J_aload_n hC dX11_init_152 1 rfl rfl ?_
  refine J_get (v := .ref (h 6)) hC wu_X11 rfl dX11_init_153 0 5 (by decide) wf_X11_25 rfl rfl ?_
  refine J_iload_n hC dX11_init_156 0 rfl rfl ?_
  refine J_aload_n hC dX11_init_157 2 rfl rfl ?_
  refine J_iload_n hC dX11_init_158 0 rfl rfl ?_
  refine J_callSNi hC dX11_init_159 wln_X11_61 yi_L_period (c_L_period _ G (hdW G h (fun _ => 0) 0 0 (us V2 4 0 (nI (placeN G 0)))) hb 0 (by decide)) rfl rfl ⟨Nat.le_of_ble_eq_true rfl, Nat.le_of_ble_eq_true rfl⟩ (Nat.le_of_ble_eq_true rfl) (Nat.le_of_ble_eq_true rfl) (Nat.le_of_ble_eq_true rfl) (fun r9 u9 h9 => ?_)
  subst h9
  refine J_iast (i := 0) (ws' := hdW G h (fun _ => 0) 0 0 (us (us V2 4 0 (nI (placeN G 0))) 5 0 (nI (periodN G 0)))) hC dX11_init_162 6 rfl (by decide) (by decide) rfl ?_
  refine J_aload_n hC dX11_init_163 1 rfl rfl ?_
  refine J_get (v := .ref (h 7)) hC wu_X11 rfl dX11_init_164 0 6 (by decide) wf_X11_28 rfl rfl ?_
  refine J_iload_n hC dX11_init_167 0 rfl rfl ?_
  refine J_aload_n hC dX11_init_168 2 rfl rfl ?_
  refine J_iload_n hC dX11_init_169 0 rfl rfl ?_
  refine J_callSNi hC dX11_init_170 wln_X11_63 yi_L_stock (c_L_stock _ G (hdW G h (fun _ => 0) 0 0 (us (us V2 4 0 (nI (placeN G 0))) 5 0 (nI (periodN G 0)))) hb 0 (by decide)) rfl rfl ⟨Nat.le_of_ble_eq_true rfl, Nat.le_of_ble_eq_true rfl⟩ (Nat.le_of_ble_eq_true rfl) (Nat.le_of_ble_eq_true rfl) (Nat.le_of_ble_eq_true rfl) (fun r9 u9 h9 => ?_)
  subst h9
  refine J_iast (i := 0) (ws' := hdW G h (fun _ => 0) 0 0 (us (us (us V2 4 0 (nI (placeN G 0))) 5 0 (nI (periodN G 0))) 6 0 (nI (stockN G 0)))) hC dX11_init_173 7 rfl (by decide) (by decide) rfl ?_
  refine J_aload_n hC dX11_init_174 1 rfl rfl ?_
  refine J_get (v := .ref (h 8)) hC wu_X11 rfl dX11_init_175 0 7 (by decide) wf_X11_31 rfl rfl ?_
  refine J_iload_n hC dX11_init_178 0 rfl rfl ?_
  refine J_aload_n hC dX11_init_179 2 rfl rfl ?_
  refine J_iload_n hC dX11_init_180 0 rfl rfl ?_
  refine J_callSNi hC dX11_init_181 wln_X11_65 yi_L_price (c_L_price _ G (hdW G h (fun _ => 0) 0 0 (us (us (us V2 4 0 (nI (placeN G 0))) 5 0 (nI (periodN G 0))) 6 0 (nI (stockN G 0)))) hb 0 (by decide)) rfl rfl ⟨Nat.le_of_ble_eq_true rfl, Nat.le_of_ble_eq_true rfl⟩ (Nat.le_of_ble_eq_true rfl) (Nat.le_of_ble_eq_true rfl) (Nat.le_of_ble_eq_true rfl) (fun r9 u9 h9 => ?_)
  subst h9
  refine J_iast (i := 0) (ws' := hdW G h (fun _ => 0) 0 0 (us (us (us (us V2 4 0 (nI (placeN G 0))) 5 0 (nI (periodN G 0))) 6 0 (nI (stockN G 0))) 7 0 (nI (priceN G 0)))) hC dX11_init_184 8 rfl (by decide) (by decide) rfl ?_
  obtain ⟨F0, hF0⟩ : ∃ z, z = hSf G 0 V2 := ⟨_, rfl⟩
  refine J_wq (show _ = hdW G h (fun _ => 0) 0 0 F0 from by rw [hF0]; rfl) ?_
  refine J_iinc hC [(2, .int 1), (0, .ref (h 0)), (1, .ref (G.2.2.1 14))] dX11_init_185 0 rfl (by decide +kernel) (by decide) rfl ?_
  refine J_goto (tgt := 136) hC dX11_init_188 (by decide) ?_
  refine J_iload_n hC dX11_init_136 0 rfl rfl ?_
  refine J_iconst (v := 2) hC dX11_init_137 rfl ?_
  refine J_ic_ge (tgt := 191) hC dX11_init_138 (by decide) (fun c => absurd c (by decide)) (fun _ => ?_)
  refine J_aload_n hC dX11_init_141 1 rfl rfl ?_
  refine J_get (v := .ref (h 5)) hC wu_X11 rfl dX11_init_142 0 4 (by decide) wf_X11_22 rfl rfl ?_
  refine J_iload_n hC dX11_init_145 0 rfl rfl ?_
  refine J_aload_n hC dX11_init_146 2 rfl rfl ?_
  refine J_iload_n hC dX11_init_147 0 rfl rfl ?_
  refine J_callSNi hC dX11_init_148 wln_X11_58 yi_L_place (c_L_place _ G (hdW G h (fun _ => 0) 0 0 F0) hb 1 (by decide)) rfl rfl ⟨Nat.le_of_ble_eq_true rfl, Nat.le_of_ble_eq_true rfl⟩ (Nat.le_of_ble_eq_true rfl) (Nat.le_of_ble_eq_true rfl) (Nat.le_of_ble_eq_true rfl) (fun r9 u9 h9 => ?_)
  subst h9
  refine J_iast (i := 1) (ws' := hdW G h (fun _ => 0) 0 0 (us F0 4 1 (nI (placeN G 1)))) hC dX11_init_151 5 rfl (by decide) (by decide) rfl ?_
  refine J_aload_n hC dX11_init_152 1 rfl rfl ?_
  refine J_get (v := .ref (h 6)) hC wu_X11 rfl dX11_init_153 0 5 (by decide) wf_X11_25 rfl rfl ?_
  refine J_iload_n hC dX11_init_156 0 rfl rfl ?_
  refine J_aload_n hC dX11_init_157 2 rfl rfl ?_
  refine J_iload_n hC dX11_init_158 0 rfl rfl ?_
  refine J_callSNi hC dX11_init_159 wln_X11_61 yi_L_period (c_L_period _ G (hdW G h (fun _ => 0) 0 0 (us F0 4 1 (nI (placeN G 1)))) hb 1 (by decide)) rfl rfl ⟨Nat.le_of_ble_eq_true rfl, Nat.le_of_ble_eq_true rfl⟩ (Nat.le_of_ble_eq_true rfl) (Nat.le_of_ble_eq_true rfl) (Nat.le_of_ble_eq_true rfl) (fun r9 u9 h9 => ?_)
  subst h9
  refine J_iast (i := 1) (ws' := hdW G h (fun _ => 0) 0 0 (us (us F0 4 1 (nI (placeN G 1))) 5 1 (nI (periodN G 1)))) hC dX11_init_162 6 rfl (by decide) (by decide) rfl ?_
  refine J_aload_n hC dX11_init_163 1 rfl rfl ?_
  refine J_get (v := .ref (h 7)) hC wu_X11 rfl dX11_init_164 0 6 (by decide) wf_X11_28 rfl rfl ?_
  refine J_iload_n hC dX11_init_167 0 rfl rfl ?_
  refine J_aload_n hC dX11_init_168 2 rfl rfl ?_
  refine J_iload_n hC dX11_init_169 0 rfl rfl ?_
  refine J_callSNi hC dX11_init_170 wln_X11_63 yi_L_stock (c_L_stock _ G (hdW G h (fun _ => 0) 0 0 (us (us F0 4 1 (nI (placeN G 1))) 5 1 (nI (periodN G 1)))) hb 1 (by decide)) rfl rfl ⟨Nat.le_of_ble_eq_true rfl, Nat.le_of_ble_eq_true rfl⟩ (Nat.le_of_ble_eq_true rfl) (Nat.le_of_ble_eq_true rfl) (Nat.le_of_ble_eq_true rfl) (fun r9 u9 h9 => ?_)
  subst h9
  refine J_iast (i := 1) (ws' := hdW G h (fun _ => 0) 0 0 (us (us (us F0 4 1 (nI (placeN G 1))) 5 1 (nI (periodN G 1))) 6 1 (nI (stockN G 1)))) hC dX11_init_173 7 rfl (by decide) (by decide) rfl ?_
  refine J_aload_n hC dX11_init_174 1 rfl rfl ?_
  refine J_get (v := .ref (h 8)) hC wu_X11 rfl dX11_init_175 0 7 (by decide) wf_X11_31 rfl rfl ?_
  refine J_iload_n hC dX11_init_178 0 rfl rfl ?_
  refine J_aload_n hC dX11_init_179 2 rfl rfl ?_
  refine J_iload_n hC dX11_init_180 0 rfl rfl ?_
  refine J_callSNi hC dX11_init_181 wln_X11_65 yi_L_price (c_L_price _ G (hdW G h (fun _ => 0) 0 0 (us (us (us F0 4 1 (nI (placeN G 1))) 5 1 (nI (periodN G 1))) 6 1 (nI (stockN G 1)))) hb 1 (by decide)) rfl rfl ⟨Nat.le_of_ble_eq_true rfl, Nat.le_of_ble_eq_true rfl⟩ (Nat.le_of_ble_eq_true rfl) (Nat.le_of_ble_eq_true rfl) (Nat.le_of_ble_eq_true rfl) (fun r9 u9 h9 => ?_)
  subst h9
  refine J_iast (i := 1) (ws' := hdW G h (fun _ => 0) 0 0 (us (us (us (us F0 4 1 (nI (placeN G 1))) 5 1 (nI (periodN G 1))) 6 1 (nI (stockN G 1))) 7 1 (nI (priceN G 1)))) hC dX11_init_184 8 rfl (by decide) (by decide) rfl ?_
  obtain ⟨F1, hF1⟩ : ∃ z, z = hSf G 1 F0 := ⟨_, rfl⟩
  refine J_wq (show _ = hdW G h (fun _ => 0) 0 0 F1 from by rw [hF1]; rfl) ?_
  refine J_iinc hC [(2, .int 2), (0, .ref (h 0)), (1, .ref (G.2.2.1 14))] dX11_init_185 0 rfl (by decide +kernel) (by decide) rfl ?_
  refine J_goto (tgt := 136) hC dX11_init_188 (by decide) ?_
  refine J_iload_n hC dX11_init_136 0 rfl rfl ?_
  refine J_iconst (v := 2) hC dX11_init_137 rfl ?_
  refine J_ic_ge (tgt := 191) hC dX11_init_138 (by decide) (fun _ => ?_) (fun c => absurd (by decide) c)
  exact J_vret hC hR dX11_init_191 h rfl (by rw [hF1, hF0, hV2, hV1, hV0, hS0]; rfl) (by decide) (by decide)


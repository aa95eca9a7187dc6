/-- the whole office. Addresses u: u 0 the state, u 1 the draft, u 2 the input, u 3 the output, u 4: 0 the office, 1 the history, 2 its array, 3 the slots' array, 4 the flags; u (5 + i) the history's States, u (13 + i) the slots' -/
def oR (u : Nat → Nat → Nat) : Nat → Nat := fun i => [u 2 0, u 3 0, u 1 0, u 4 1, u 4 3, u 4 4].getD i 0
/-- its contents: state, draft, history (next, count, States), slots, flags, input, output, errorCode, errorPosition -/
abbrev OS : Type := CT × CT × (Nat × Nat × (Nat → CT)) × (Nat → CT) × (Nat → Int32) × (RT × Nat) × (RT × Nat) × Int32 × Int32
abbrev zS (z : OS) : CT := z.1
abbrev zD (z : OS) : CT := z.2.1
abbrev zn (z : OS) : Nat := z.2.2.1.1
abbrev zk (z : OS) : Nat := z.2.2.1.2.1
abbrev zT (z : OS) : Nat → CT := z.2.2.1.2.2
abbrev zL (z : OS) : Nat → CT := z.2.2.2.1
abbrev zf (z : OS) : Nat → Int32 := z.2.2.2.2.1
abbrev zi (z : OS) : RT × Nat := z.2.2.2.2.2.1
abbrev zo (z : OS) : RT × Nat := z.2.2.2.2.2.2.1
abbrev zc (z : OS) : Int32 := z.2.2.2.2.2.2.2.1
abbrev zp (z : OS) : Int32 := z.2.2.2.2.2.2.2.2
def ofW (G : gT) (u : Nat → Nat → Nat) (z : OS) : va_W := oW G (u 4 0) (oR u) (u 0) (zS z) (zc z) (zp z) ++ (hiW G (u 4 1) (u 4 2) (fun i => u (5 + i)) (zn z) (zk z) (zT z) ++ (stW G (u 1) (zD z) ++ (byQ G (u 2) (zi z) ++ (byQ G (u 3) (zo z) ++ slW G (u 4 3) (u 4 4) (fun i => u (13 + i)) (zL z) (zf z)))))
def q00 : RT × Nat := (fun _ => 0, 0)
theorem b_txt_len : ∀ (k i : Nat) (q : RT × Nat), (b_txt i k q).2 = q.2 + k
  | 0, _, _ => rfl
  | k + 1, i, q => by
    show (b_txt (i + 1) k (w_put (sk_ch 0 i) q)).2 = _
    rw [b_txt_len]
    show q.2 + 1 + k = _
    omega
def q0t : RT × Nat := b_txt 0 182 q00
theorem q0t_2 : q0t.2 = 182 := by rw [q0t, b_txt_len]; rfl
/-- the first text, as the class reads it -/
def f0t : RT := fun j => q0t.1 j &&& 255
def t0c : PS CT := c_txt f0t 182 Z0
/-- a new office -/
def z0 : OS := (t0c.1, Z0, (0, 0, fun _ => Z0), fun _ => Z0, fun _ => 0, q00, q00, 0, -1)
theorem CI_Z0 : CI Z0 := by
  have h1 : bcO Z0 = 0 := rfl
  have h2 : vcO Z0 = 0 := rfl
  have h3 : fcO Z0 = 0 := rfl
  have h4 : mcO Z0 = 0 := rfl
  exact ⟨⟨by rw [h1]; rfl, by omega⟩, ⟨by rw [h2]; rfl, by omega⟩, ⟨by rw [h3]; rfl, by omega⟩, ⟨by rw [h4]; rfl, by omega⟩⟩

set_option maxRecDepth 100000 in
set_option maxHeartbeats 4000000 in
theorem c_X10_init (l : Launch) (G : gT) (o : Nat) : MV l yX10_init cX10_init 3 { frames := 9, cells := 298, slots := 5067, locals := 200 } [.ref o] G ([(o, .inr (10, [.null, .null, .null, .null, .null, .null, .null, .int 0, .int 0]))]) (fun (u : Nat → Nat → Nat) => u 4 0 = o) (fun u => ofW G u z0) := by
  refine jm_v (own := RX10) (by decide) rfl (Nat.le_of_ble_eq_true rfl) (fun x hl hC hR hin => ?_)
  subst hl
  refine J_aload_n hC dX10_init_0 0 rfl rfl ?_
  refine J_oinit hC dX10_init_1 wl_X10_1 (by decide) (by decide) ?_
  refine J_aload_n hC dX10_init_4 0 rfl rfl ?_
  refine J_new (ci := 1) hC [.null, .int 0] wu_X1 rfl tyX1_ok dX10_init_5 wk_X10_7 wt_X1 wi_X1 (fun j hj => by rcases (show j = 0 ∨ j = 1 by omega) with rfl | rfl <;> rfl) (by decide) (by decide) (fun q0 => ?_)
  refine J_wq (show _ = (o, .inr (10, [.null, .null, .null, .null, .null, .null, .null, .int 0, .int 0])) :: [(q0, .inr (1, [.null, .int 0]))] from rfl) ?_
  refine J_dup hC dX10_init_8 rfl ?_
  refine J_callCN hC dX10_init_9 wln_X10_9 yc_X1 (appr_v ([(o, .inr (10, [.null, .null, .null, .null, .null, .null, .null, .int 0, .int 0]))]) (c_X1_init _ G q0)) rfl rfl ⟨Nat.le_of_ble_eq_true rfl, Nat.le_of_ble_eq_true rfl⟩ (Nat.le_of_ble_eq_true rfl) (Nat.le_of_ble_eq_true rfl) (Nat.le_of_ble_eq_true rfl) (fun u0 _ => ?_)
  obtain ⟨bi, ebi⟩ : ∃ z9 : Nat → Nat, z9 = (fun i => [q0, u0 0].getD i 0) := ⟨_, rfl⟩
  have hbi : q0 = bi 0 := by rw [ebi]; rfl
  refine J_wq (show _ = (o, .inr (10, [.null, .null, .null, .null, .null, .null, .null, .int 0, .int 0])) :: byQ G bi q00 from by rw [ebi]; rfl) ?_
  rw [hbi]
  refine J_putF (ws' := (o, .inr (10, [.ref (bi 0), .null, .null, .null, .null, .null, .null, .int 0, .int 0])) :: byQ G bi q00) hC wu_X10 rfl tyX10_ok nmX10 hin dX10_init_12 0 0 (by decide) wf_X10_10 rfl rfl rfl (Nat.le_of_ble_eq_true rfl) rfl rfl rfl ?_
  refine J_aload_n hC dX10_init_15 0 rfl rfl ?_
  refine J_new (ci := 1) hC [.null, .int 0] wu_X1 rfl tyX1_ok dX10_init_16 wk_X10_7 wt_X1 wi_X1 (fun j hj => by rcases (show j = 0 ∨ j = 1 by omega) with rfl | rfl <;> rfl) (by decide) (by decide) (fun q1 => ?_)
  refine J_wq (show _ = (o, .inr (10, [.ref (bi 0), .null, .null, .null, .null, .null, .null, .int 0, .int 0])) :: (byQ G bi q00 ++ [(q1, .inr (1, [.null, .int 0]))]) from rfl) ?_
  refine J_dup hC dX10_init_19 rfl ?_
  refine J_callCN hC dX10_init_20 wln_X10_9 yc_X1 (appr_v ((o, .inr (10, [.ref (bi 0), .null, .null, .null, .null, .null, .null, .int 0, .int 0])) :: byQ G bi q00) (c_X1_init _ G q1)) rfl rfl ⟨Nat.le_of_ble_eq_true rfl, Nat.le_of_ble_eq_true rfl⟩ (Nat.le_of_ble_eq_true rfl) (Nat.le_of_ble_eq_true rfl) (Nat.le_of_ble_eq_true rfl) (fun u1 _ => ?_)
  obtain ⟨bo, ebo⟩ : ∃ z9 : Nat → Nat, z9 = (fun i => [q1, u1 0].getD i 0) := ⟨_, rfl⟩
  have hbo : q1 = bo 0 := by rw [ebo]; rfl
  refine J_wq (show _ = (o, .inr (10, [.ref (bi 0), .null, .null, .null, .null, .null, .null, .int 0, .int 0])) :: (byQ G bi q00 ++ byQ G bo q00) from by rw [ebo]; rfl) ?_
  rw [hbo]
  refine J_putF (ws' := (o, .inr (10, [.ref (bi 0), .ref (bo 0), .null, .null, .null, .null, .null, .int 0, .int 0])) :: (byQ G bi q00 ++ byQ G bo q00)) hC wu_X10 rfl tyX10_ok nmX10 hin dX10_init_23 0 1 (by decide) wf_X10_16 rfl rfl rfl (Nat.le_of_ble_eq_true rfl) rfl rfl rfl ?_
  refine J_aload_n hC dX10_init_26 0 rfl rfl ?_
  refine J_new (ci := 8) hC [.null, .null, .null, .null, .null, .int 0, .int 0, .int 0, .int 0, .int 0, .int 0, .int 0, .int 0, .int 0] wu_X8 rfl tyX8_ok dX10_init_27 wk_X10_19 wt_X8 wi_X8 (fun j hj => by rcases (show j = 0 ∨ j = 1 ∨ j = 2 ∨ j = 3 ∨ j = 4 ∨ j = 5 ∨ j = 6 ∨ j = 7 ∨ j = 8 ∨ j = 9 ∨ j = 10 ∨ j = 11 ∨ j = 12 ∨ j = 13 by omega) with rfl | rfl | rfl | rfl | rfl | rfl | rfl | rfl | rfl | rfl | rfl | rfl | rfl | rfl <;> rfl) (by decide) (by decide) (fun q2 => ?_)
  refine J_wq (show _ = (o, .inr (10, [.ref (bi 0), .ref (bo 0), .null, .null, .null, .null, .null, .int 0, .int 0])) :: ((byQ G bi q00 ++ byQ G bo q00) ++ [(q2, .inr (8, [.null, .null, .null, .null, .null, .int 0, .int 0, .int 0, .int 0, .int 0, .int 0, .int 0, .int 0, .int 0]))]) from rfl) ?_
  refine J_dup hC dX10_init_30 rfl ?_
  refine J_callCN hC dX10_init_31 wln_X10_21 yc_X8 (appr_v ((o, .inr (10, [.ref (bi 0), .ref (bo 0), .null, .null, .null, .null, .null, .int 0, .int 0])) :: (byQ G bi q00 ++ byQ G bo q00)) (c_X8_init _ G q2)) rfl rfl ⟨Nat.le_of_ble_eq_true rfl, Nat.le_of_ble_eq_true rfl⟩ (Nat.le_of_ble_eq_true rfl) (Nat.le_of_ble_eq_true rfl) (Nat.le_of_ble_eq_true rfl) (fun a ha => ?_)
  subst ha
  refine J_wq (show _ = (o, .inr (10, [.ref (bi 0), .ref (bo 0), .null, .null, .null, .null, .null, .int 0, .int 0])) :: ((byQ G bi q00 ++ byQ G bo q00) ++ stW G a Z0) from rfl) ?_
  refine J_putF (ws' := (o, .inr (10, [.ref (bi 0), .ref (bo 0), .ref (a 0), .null, .null, .null, .null, .int 0, .int 0])) :: ((byQ G bi q00 ++ byQ G bo q00) ++ stW G a Z0)) hC wu_X10 rfl tyX10_ok nmX10 hin dX10_init_34 0 2 (by decide) wf_X10_22 rfl rfl rfl (Nat.le_of_ble_eq_true rfl) rfl rfl rfl ?_
  refine J_aload_n hC dX10_init_37 0 rfl rfl ?_
  refine J_new (ci := 8) hC [.null, .null, .null, .null, .null, .int 0, .int 0, .int 0, .int 0, .int 0, .int 0, .int 0, .int 0, .int 0] wu_X8 rfl tyX8_ok dX10_init_38 wk_X10_19 wt_X8 wi_X8 (fun j hj => by rcases (show j = 0 ∨ j = 1 ∨ j = 2 ∨ j = 3 ∨ j = 4 ∨ j = 5 ∨ j = 6 ∨ j = 7 ∨ j = 8 ∨ j = 9 ∨ j = 10 ∨ j = 11 ∨ j = 12 ∨ j = 13 by omega) with rfl | rfl | rfl | rfl | rfl | rfl | rfl | rfl | rfl | rfl | rfl | rfl | rfl | rfl <;> rfl) (by decide) (by decide) (fun q3 => ?_)
  refine J_wq (show _ = (o, .inr (10, [.ref (bi 0), .ref (bo 0), .ref (a 0), .null, .null, .null, .null, .int 0, .int 0])) :: (((byQ G bi q00 ++ byQ G bo q00) ++ stW G a Z0) ++ [(q3, .inr (8, [.null, .null, .null, .null, .null, .int 0, .int 0, .int 0, .int 0, .int 0, .int 0, .int 0, .int 0, .int 0]))]) from rfl) ?_
  refine J_dup hC dX10_init_41 rfl ?_
  refine J_callCN hC dX10_init_42 wln_X10_21 yc_X8 (appr_v ((o, .inr (10, [.ref (bi 0), .ref (bo 0), .ref (a 0), .null, .null, .null, .null, .int 0, .int 0])) :: ((byQ G bi q00 ++ byQ G bo q00) ++ stW G a Z0)) (c_X8_init _ G q3)) rfl rfl ⟨Nat.le_of_ble_eq_true rfl, Nat.le_of_ble_eq_true rfl⟩ (Nat.le_of_ble_eq_true rfl) (Nat.le_of_ble_eq_true rfl) (Nat.le_of_ble_eq_true rfl) (fun d hd => ?_)
  subst hd
  refine J_wq (show _ = (o, .inr (10, [.ref (bi 0), .ref (bo 0), .ref (a 0), .null, .null, .null, .null, .int 0, .int 0])) :: (((byQ G bi q00 ++ byQ G bo q00) ++ stW G a Z0) ++ stW G d Z0) from rfl) ?_
  refine J_putF (ws' := (o, .inr (10, [.ref (bi 0), .ref (bo 0), .ref (a 0), .ref (d 0), .null, .null, .null, .int 0, .int 0])) :: (((byQ G bi q00 ++ byQ G bo q00) ++ stW G a Z0) ++ stW G d Z0)) hC wu_X10 rfl tyX10_ok nmX10 hin dX10_init_45 0 3 (by decide) wf_X10_26 rfl rfl rfl (Nat.le_of_ble_eq_true rfl) rfl rfl rfl ?_
  refine J_aload_n hC dX10_init_48 0 rfl rfl ?_
  refine J_new (ci := 3) hC [.null, .int 0, .int 0] wu_X3 rfl tyX3_ok dX10_init_49 wk_X10_29 wt_X3 wi_X3 (fun j hj => by rcases (show j = 0 ∨ j = 1 ∨ j = 2 by omega) with rfl | rfl | rfl <;> rfl) (by decide) (by decide) (fun h => ?_)
  refine J_wq (show _ = (o, .inr (10, [.ref (bi 0), .ref (bo 0), .ref (a 0), .ref (d 0), .null, .null, .null, .int 0, .int 0])) :: ((((byQ G bi q00 ++ byQ G bo q00) ++ stW G a Z0) ++ stW G d Z0) ++ [(h, .inr (3, [.null, .int 0, .int 0]))]) from rfl) ?_
  refine J_dup hC dX10_init_52 rfl ?_
  refine J_callC hC dX10_init_53 wl_X10_31 yc_X3 (appr_v ((o, .inr (10, [.ref (bi 0), .ref (bo 0), .ref (a 0), .ref (d 0), .null, .null, .null, .int 0, .int 0])) :: (((byQ G bi q00 ++ byQ G bo q00) ++ stW G a Z0) ++ stW G d Z0)) (c_X3_init _ G h)) rfl rfl ⟨Nat.le_of_ble_eq_true rfl, Nat.le_of_ble_eq_true rfl⟩ (Nat.le_of_ble_eq_true rfl) (Nat.le_of_ble_eq_true rfl) (Nat.le_of_ble_eq_true rfl) (fun u4 _ => ?_)
  obtain ⟨r, A⟩ := u4
  refine J_wq (show _ = (o, .inr (10, [.ref (bi 0), .ref (bo 0), .ref (a 0), .ref (d 0), .null, .null, .null, .int 0, .int 0])) :: ((((byQ G bi q00 ++ byQ G bo q00) ++ stW G a Z0) ++ stW G d Z0) ++ hiW G h r A 0 0 (fun _ => Z0)) from rfl) ?_
  refine J_putF (ws' := (o, .inr (10, [.ref (bi 0), .ref (bo 0), .ref (a 0), .ref (d 0), .ref h, .null, .null, .int 0, .int 0])) :: ((((byQ G bi q00 ++ byQ G bo q00) ++ stW G a Z0) ++ stW G d Z0) ++ hiW G h r A 0 0 (fun _ => Z0))) hC wu_X10 rfl tyX10_ok nmX10 hin dX10_init_56 0 4 (by decide) wf_X10_32 rfl rfl rfl (Nat.le_of_ble_eq_true rfl) rfl rfl rfl ?_
  refine J_aload_n hC dX10_init_59 0 rfl rfl ?_
  refine J_iconst (v := nI 2) hC dX10_init_60 rfl ?_
  refine J_newQ hC dX10_init_61 wk_X10_19 (by decide) (by decide) (by decide) (fun s => ?_)
  refine J_wq (show _ = (o, .inr (10, [.ref (bi 0), .ref (bo 0), .ref (a 0), .ref (d 0), .ref h, .null, .null, .int 0, .int 0])) :: (((((byQ G bi q00 ++ byQ G bo q00) ++ stW G a Z0) ++ stW G d Z0) ++ hiW G h r A 0 0 (fun _ => Z0)) ++ [(s, .inl (gc G 3, 2, .inr (.inr (.inr (.inr (fun _ => none))))))]) from rfl) ?_
  obtain ⟨f0, hf0⟩ : ∃ z9 : Nat → Option Nat, z9 = (fun _ => none) := ⟨_, rfl⟩
  rw [← hf0]
  refine J_dup hC dX10_init_64 rfl ?_
  refine J_iconst (v := nI 0) hC dX10_init_65 rfl ?_
  refine J_new (ci := 8) hC [.null, .null, .null, .null, .null, .int 0, .int 0, .int 0, .int 0, .int 0, .int 0, .int 0, .int 0, .int 0] wu_X8 rfl tyX8_ok dX10_init_66 wk_X10_19 wt_X8 wi_X8 (fun j hj => by rcases (show j = 0 ∨ j = 1 ∨ j = 2 ∨ j = 3 ∨ j = 4 ∨ j = 5 ∨ j = 6 ∨ j = 7 ∨ j = 8 ∨ j = 9 ∨ j = 10 ∨ j = 11 ∨ j = 12 ∨ j = 13 by omega) with rfl | rfl | rfl | rfl | rfl | rfl | rfl | rfl | rfl | rfl | rfl | rfl | rfl | rfl <;> rfl) (by decide) (by decide) (fun q5 => ?_)
  refine J_wq (show _ = (o, .inr (10, [.ref (bi 0), .ref (bo 0), .ref (a 0), .ref (d 0), .ref h, .null, .null, .int 0, .int 0])) :: ((((((byQ G bi q00 ++ byQ G bo q00) ++ stW G a Z0) ++ stW G d Z0) ++ hiW G h r A 0 0 (fun _ => Z0)) ++ [(s, .inl (gc G 3, 2, .inr (.inr (.inr (.inr f0)))))]) ++ [(q5, .inr (8, [.null, .null, .null, .null, .null, .int 0, .int 0, .int 0, .int 0, .int 0, .int 0, .int 0, .int 0, .int 0]))]) from rfl) ?_
  refine J_dup hC dX10_init_69 rfl ?_
  refine J_callCN hC dX10_init_70 wln_X10_21 yc_X8 (appr_v ((o, .inr (10, [.ref (bi 0), .ref (bo 0), .ref (a 0), .ref (d 0), .ref h, .null, .null, .int 0, .int 0])) :: (((((byQ G bi q00 ++ byQ G bo q00) ++ stW G a Z0) ++ stW G d Z0) ++ hiW G h r A 0 0 (fun _ => Z0)) ++ [(s, .inl (gc G 3, 2, .inr (.inr (.inr (.inr f0)))))])) (c_X8_init _ G q5)) rfl rfl ⟨Nat.le_of_ble_eq_true rfl, Nat.le_of_ble_eq_true rfl⟩ (Nat.le_of_ble_eq_true rfl) (Nat.le_of_ble_eq_true rfl) (Nat.le_of_ble_eq_true rfl) (fun b0 hb0 => ?_)
  subst hb0
  refine J_wq (show _ = (o, .inr (10, [.ref (bi 0), .ref (bo 0), .ref (a 0), .ref (d 0), .ref h, .null, .null, .int 0, .int 0])) :: ((((((byQ G bi q00 ++ byQ G bo q00) ++ stW G a Z0) ++ stW G d Z0) ++ hiW G h r A 0 0 (fun _ => Z0)) ++ [(s, .inl (gc G 3, 2, .inr (.inr (.inr (.inr f0)))))]) ++ stW G b0 Z0) from rfl) ?_
  obtain ⟨f1, hf1⟩ : ∃ z9 : Nat → Option Nat, z9 = va_up f0 0 (some (b0 0)) := ⟨_, rfl⟩
  refine J_aast (ws' := (o, .inr (10, [.ref (bi 0), .ref (bo 0), .ref (a 0), .ref (d 0), .ref h, .null, .null, .int 0, .int 0])) :: ((((((byQ G bi q00 ++ byQ G bo q00) ++ stW G a Z0) ++ stW G d Z0) ++ hiW G h r A 0 0 (fun _ => Z0)) ++ [(s, .inl (gc G 3, 2, .inr (.inr (.inr (.inr f1)))))]) ++ stW G b0 Z0)) hC dX10_init_73 227 228 rfl rfl (show 0 < 2 by decide) (by decide) (by rw [hf1]; rfl) ?_
  refine J_dup hC dX10_init_74 rfl ?_
  refine J_iconst (v := nI 1) hC dX10_init_75 rfl ?_
  refine J_new (ci := 8) hC [.null, .null, .null, .null, .null, .int 0, .int 0, .int 0, .int 0, .int 0, .int 0, .int 0, .int 0, .int 0] wu_X8 rfl tyX8_ok dX10_init_76 wk_X10_19 wt_X8 wi_X8 (fun j hj => by rcases (show j = 0 ∨ j = 1 ∨ j = 2 ∨ j = 3 ∨ j = 4 ∨ j = 5 ∨ j = 6 ∨ j = 7 ∨ j = 8 ∨ j = 9 ∨ j = 10 ∨ j = 11 ∨ j = 12 ∨ j = 13 by omega) with rfl | rfl | rfl | rfl | rfl | rfl | rfl | rfl | rfl | rfl | rfl | rfl | rfl | rfl <;> rfl) (by decide) (by decide) (fun q6 => ?_)
  refine J_wq (show _ = (o, .inr (10, [.ref (bi 0), .ref (bo 0), .ref (a 0), .ref (d 0), .ref h, .null, .null, .int 0, .int 0])) :: (((((((byQ G bi q00 ++ byQ G bo q00) ++ stW G a Z0) ++ stW G d Z0) ++ hiW G h r A 0 0 (fun _ => Z0)) ++ [(s, .inl (gc G 3, 2, .inr (.inr (.inr (.inr f1)))))]) ++ stW G b0 Z0) ++ [(q6, .inr (8, [.null, .null, .null, .null, .null, .int 0, .int 0, .int 0, .int 0, .int 0, .int 0, .int 0, .int 0, .int 0]))]) from rfl) ?_
  refine J_dup hC dX10_init_79 rfl ?_
  refine J_callCN hC dX10_init_80 wln_X10_21 yc_X8 (appr_v ((o, .inr (10, [.ref (bi 0), .ref (bo 0), .ref (a 0), .ref (d 0), .ref h, .null, .null, .int 0, .int 0])) :: ((((((byQ G bi q00 ++ byQ G bo q00) ++ stW G a Z0) ++ stW G d Z0) ++ hiW G h r A 0 0 (fun _ => Z0)) ++ [(s, .inl (gc G 3, 2, .inr (.inr (.inr (.inr f1)))))]) ++ stW G b0 Z0)) (c_X8_init _ G q6)) rfl rfl ⟨Nat.le_of_ble_eq_true rfl, Nat.le_of_ble_eq_true rfl⟩ (Nat.le_of_ble_eq_true rfl) (Nat.le_of_ble_eq_true rfl) (Nat.le_of_ble_eq_true rfl) (fun b1 hb1 => ?_)
  subst hb1
  refine J_wq (show _ = (o, .inr (10, [.ref (bi 0), .ref (bo 0), .ref (a 0), .ref (d 0), .ref h, .null, .null, .int 0, .int 0])) :: (((((((byQ G bi q00 ++ byQ G bo q00) ++ stW G a Z0) ++ stW G d Z0) ++ hiW G h r A 0 0 (fun _ => Z0)) ++ [(s, .inl (gc G 3, 2, .inr (.inr (.inr (.inr f1)))))]) ++ stW G b0 Z0) ++ stW G b1 Z0) from rfl) ?_
  obtain ⟨f2, hf2⟩ : ∃ z9 : Nat → Option Nat, z9 = va_up f1 1 (some (b1 0)) := ⟨_, rfl⟩
  refine J_aast (ws' := (o, .inr (10, [.ref (bi 0), .ref (bo 0), .ref (a 0), .ref (d 0), .ref h, .null, .null, .int 0, .int 0])) :: (((((((byQ G bi q00 ++ byQ G bo q00) ++ stW G a Z0) ++ stW G d Z0) ++ hiW G h r A 0 0 (fun _ => Z0)) ++ [(s, .inl (gc G 3, 2, .inr (.inr (.inr (.inr f2)))))]) ++ stW G b0 Z0) ++ stW G b1 Z0)) hC dX10_init_83 227 250 rfl rfl (show 1 < 2 by decide) (by decide) (by rw [hf2]; rfl) ?_
  refine J_putF (ws' := (o, .inr (10, [.ref (bi 0), .ref (bo 0), .ref (a 0), .ref (d 0), .ref h, .ref s, .null, .int 0, .int 0])) :: (((((((byQ G bi q00 ++ byQ G bo q00) ++ stW G a Z0) ++ stW G d Z0) ++ hiW G h r A 0 0 (fun _ => Z0)) ++ [(s, .inl (gc G 3, 2, .inr (.inr (.inr (.inr f2)))))]) ++ stW G b0 Z0) ++ stW G b1 Z0)) hC wu_X10 rfl tyX10_ok nmX10 hin dX10_init_84 0 5 (by decide) wf_X10_36 rfl rfl rfl (Nat.le_of_ble_eq_true rfl) rfl rfl rfl ?_
  refine J_aload_n hC dX10_init_87 0 rfl rfl ?_
  refine J_iconst (v := nI 2) hC dX10_init_88 rfl ?_
  refine J_newZ hC dX10_init_89 (by decide) (by decide) (by decide) (fun f => ?_)
  refine J_wq (show _ = (o, .inr (10, [.ref (bi 0), .ref (bo 0), .ref (a 0), .ref (d 0), .ref h, .ref s, .null, .int 0, .int 0])) :: ((((((((byQ G bi q00 ++ byQ G bo q00) ++ stW G a Z0) ++ stW G d Z0) ++ hiW G h r A 0 0 (fun _ => Z0)) ++ [(s, .inl (gc G 3, 2, .inr (.inr (.inr (.inr f2)))))]) ++ stW G b0 Z0) ++ stW G b1 Z0) ++ [(f, .inl (gc G 2, 2, .inl (fun _ => 0)))]) from rfl) ?_
  refine J_putF (ws' := (o, .inr (10, [.ref (bi 0), .ref (bo 0), .ref (a 0), .ref (d 0), .ref h, .ref s, .ref f, .int 0, .int 0])) :: ((((((((byQ G bi q00 ++ byQ G bo q00) ++ stW G a Z0) ++ stW G d Z0) ++ hiW G h r A 0 0 (fun _ => Z0)) ++ [(s, .inl (gc G 3, 2, .inr (.inr (.inr (.inr f2)))))]) ++ stW G b0 Z0) ++ stW G b1 Z0) ++ [(f, .inl (gc G 2, 2, .inl (fun _ => 0)))])) hC wu_X10 rfl tyX10_ok nmX10 hin dX10_init_91 0 6 (by decide) wf_X10_40 rfl rfl rfl (Nat.le_of_ble_eq_true rfl) rfl rfl rfl ?_
  refine J_aload_n hC dX10_init_94 0 rfl rfl ?_
  refine J_iconst (v := 0) hC dX10_init_95 rfl ?_
  refine J_put (ws' := (o, .inr (10, [.ref (bi 0), .ref (bo 0), .ref (a 0), .ref (d 0), .ref h, .ref s, .ref f, .int 0, .int 0])) :: ((((((((byQ G bi q00 ++ byQ G bo q00) ++ stW G a Z0) ++ stW G d Z0) ++ hiW G h r A 0 0 (fun _ => Z0)) ++ [(s, .inl (gc G 3, 2, .inr (.inr (.inr (.inr f2)))))]) ++ stW G b0 Z0) ++ stW G b1 Z0) ++ [(f, .inl (gc G 2, 2, .inl (fun _ => 0)))])) hC wu_X10 rfl tyX10_ok nmX10 dX10_init_96 0 7 (by decide) wf_X10_44 rfl rfl (Nat.le_of_ble_eq_true rfl) rfl rfl rfl ?_
  refine J_aload_n hC dX10_init_99 0 rfl rfl ?_
  refine J_iconst (v := -1) hC dX10_init_100 rfl ?_
  refine J_put (ws' := (o, .inr (10, [.ref (bi 0), .ref (bo 0), .ref (a 0), .ref (d 0), .ref h, .ref s, .ref f, .int 0, .int (-1)])) :: ((((((((byQ G bi q00 ++ byQ G bo q00) ++ stW G a Z0) ++ stW G d Z0) ++ hiW G h r A 0 0 (fun _ => Z0)) ++ [(s, .inl (gc G 3, 2, .inr (.inr (.inr (.inr f2)))))]) ++ stW G b0 Z0) ++ stW G b1 Z0) ++ [(f, .inl (gc G 2, 2, .inl (fun _ => 0)))])) hC wu_X10 rfl tyX10_ok nmX10 dX10_init_101 0 8 (by decide) wf_X10_48 rfl rfl (Nat.le_of_ble_eq_true rfl) rfl rfl rfl ?_
  refine J_new (ci := 1) hC [.null, .int 0] wu_X1 rfl tyX1_ok dX10_init_104 wk_X10_7 wt_X1 wi_X1 (fun j hj => by rcases (show j = 0 ∨ j = 1 by omega) with rfl | rfl <;> rfl) (by decide) (by decide) (fun q7 => ?_)
  refine J_wq (show _ = (o, .inr (10, [.ref (bi 0), .ref (bo 0), .ref (a 0), .ref (d 0), .ref h, .ref s, .ref f, .int 0, .int (-1)])) :: (((((((((byQ G bi q00 ++ byQ G bo q00) ++ stW G a Z0) ++ stW G d Z0) ++ hiW G h r A 0 0 (fun _ => Z0)) ++ [(s, .inl (gc G 3, 2, .inr (.inr (.inr (.inr f2)))))]) ++ stW G b0 Z0) ++ stW G b1 Z0) ++ [(f, .inl (gc G 2, 2, .inl (fun _ => 0)))]) ++ [(q7, .inr (1, [.null, .int 0]))]) from rfl) ?_
  refine J_dup hC dX10_init_107 rfl ?_
  refine J_callCN hC dX10_init_108 wln_X10_9 yc_X1 (appr_v ((o, .inr (10, [.ref (bi 0), .ref (bo 0), .ref (a 0), .ref (d 0), .ref h, .ref s, .ref f, .int 0, .int (-1)])) :: ((((((((byQ G bi q00 ++ byQ G bo q00) ++ stW G a Z0) ++ stW G d Z0) ++ hiW G h r A 0 0 (fun _ => Z0)) ++ [(s, .inl (gc G 3, 2, .inr (.inr (.inr (.inr f2)))))]) ++ stW G b0 Z0) ++ stW G b1 Z0) ++ [(f, .inl (gc G 2, 2, .inl (fun _ => 0)))])) (c_X1_init _ G q7)) rfl rfl ⟨Nat.le_of_ble_eq_true rfl, Nat.le_of_ble_eq_true rfl⟩ (Nat.le_of_ble_eq_true rfl) (Nat.le_of_ble_eq_true rfl) (Nat.le_of_ble_eq_true rfl) (fun u7 _ => ?_)
  obtain ⟨bt, ebt⟩ : ∃ z9 : Nat → Nat, z9 = (fun i => [q7, u7 0].getD i 0) := ⟨_, rfl⟩
  have hbt : q7 = bt 0 := by rw [ebt]; rfl
  refine J_wq (show _ = (o, .inr (10, [.ref (bi 0), .ref (bo 0), .ref (a 0), .ref (d 0), .ref h, .ref s, .ref f, .int 0, .int (-1)])) :: (((((((((byQ G bi q00 ++ byQ G bo q00) ++ stW G a Z0) ++ stW G d Z0) ++ hiW G h r A 0 0 (fun _ => Z0)) ++ [(s, .inl (gc G 3, 2, .inr (.inr (.inr (.inr f2)))))]) ++ stW G b0 Z0) ++ stW G b1 Z0) ++ [(f, .inl (gc G 2, 2, .inl (fun _ => 0)))]) ++ byQ G bt q00) from by rw [ebt]; rfl) ?_
  rw [hbt]
  refine J_astore_n hC [(1, .ref (bt 0)), (0, .ref o)] dX10_init_111 rfl (by decide) rfl ?_
  refine J_aload_n hC dX10_init_112 0 rfl rfl ?_
  refine J_ldcS (i := 0) hC (by decide) rfl rfl dX10_init_113 ?_
  refine J_callVv hC dX10_init_115 wl_X10_53 yi_X1_putText (appr_v ((o, .inr (10, [.ref (bi 0), .ref (bo 0), .ref (a 0), .ref (d 0), .ref h, .ref s, .ref f, .int 0, .int (-1)])) :: ((((((((byQ G bi q00 ++ byQ G bo q00) ++ stW G a Z0) ++ stW G d Z0) ++ hiW G h r A 0 0 (fun _ => Z0)) ++ [(s, .inl (gc G 3, 2, .inr (.inr (.inr (.inr f2)))))]) ++ stW G b0 Z0) ++ stW G b1 Z0) ++ [(f, .inl (gc G 2, 2, .inl (fun _ => 0)))])) (c_X1_putText _ G bt q00 rfl)) rfl rfl 273 1 rfl rfl ⟨Nat.le_of_ble_eq_true rfl, Nat.le_of_ble_eq_true rfl⟩ (Nat.le_of_ble_eq_true rfl) (Nat.le_of_ble_eq_true rfl) (Nat.le_of_ble_eq_true rfl) (fun u8 _ => ?_)
  refine J_wq (show _ = (o, .inr (10, [.ref (bi 0), .ref (bo 0), .ref (a 0), .ref (d 0), .ref h, .ref s, .ref f, .int 0, .int (-1)])) :: (((((((((byQ G bi q00 ++ byQ G bo q00) ++ stW G a Z0) ++ stW G d Z0) ++ hiW G h r A 0 0 (fun _ => Z0)) ++ [(s, .inl (gc G 3, 2, .inr (.inr (.inr (.inr f2)))))]) ++ stW G b0 Z0) ++ stW G b1 Z0) ++ [(f, .inl (gc G 2, 2, .inl (fun _ => 0)))]) ++ byQ G bt q0t) from rfl) ?_
  refine J_new (ci := 8) hC [.null, .null, .null, .null, .null, .int 0, .int 0, .int 0, .int 0, .int 0, .int 0, .int 0, .int 0, .int 0] wu_X8 rfl tyX8_ok dX10_init_118 wk_X10_19 wt_X8 wi_X8 (fun j hj => by rcases (show j = 0 ∨ j = 1 ∨ j = 2 ∨ j = 3 ∨ j = 4 ∨ j = 5 ∨ j = 6 ∨ j = 7 ∨ j = 8 ∨ j = 9 ∨ j = 10 ∨ j = 11 ∨ j = 12 ∨ j = 13 by omega) with rfl | rfl | rfl | rfl | rfl | rfl | rfl | rfl | rfl | rfl | rfl | rfl | rfl | rfl <;> rfl) (by decide) (by decide) (fun q9 => ?_)
  refine J_wq (show _ = (o, .inr (10, [.ref (bi 0), .ref (bo 0), .ref (a 0), .ref (d 0), .ref h, .ref s, .ref f, .int 0, .int (-1)])) :: ((((((((((byQ G bi q00 ++ byQ G bo q00) ++ stW G a Z0) ++ stW G d Z0) ++ hiW G h r A 0 0 (fun _ => Z0)) ++ [(s, .inl (gc G 3, 2, .inr (.inr (.inr (.inr f2)))))]) ++ stW G b0 Z0) ++ stW G b1 Z0) ++ [(f, .inl (gc G 2, 2, .inl (fun _ => 0)))]) ++ byQ G bt q0t) ++ [(q9, .inr (8, [.null, .null, .null, .null, .null, .int 0, .int 0, .int 0, .int 0, .int 0, .int 0, .int 0, .int 0, .int 0]))]) from rfl) ?_
  refine J_dup hC dX10_init_121 rfl ?_
  refine J_callCN hC dX10_init_122 wln_X10_21 yc_X8 (appr_v ((o, .inr (10, [.ref (bi 0), .ref (bo 0), .ref (a 0), .ref (d 0), .ref h, .ref s, .ref f, .int 0, .int (-1)])) :: (((((((((byQ G bi q00 ++ byQ G bo q00) ++ stW G a Z0) ++ stW G d Z0) ++ hiW G h r A 0 0 (fun _ => Z0)) ++ [(s, .inl (gc G 3, 2, .inr (.inr (.inr (.inr f2)))))]) ++ stW G b0 Z0) ++ stW G b1 Z0) ++ [(f, .inl (gc G 2, 2, .inl (fun _ => 0)))]) ++ byQ G bt q0t)) (c_X8_init _ G q9)) rfl rfl ⟨Nat.le_of_ble_eq_true rfl, Nat.le_of_ble_eq_true rfl⟩ (Nat.le_of_ble_eq_true rfl) (Nat.le_of_ble_eq_true rfl) (Nat.le_of_ble_eq_true rfl) (fun a1 ha1 => ?_)
  subst ha1
  refine J_wq (show _ = (o, .inr (10, [.ref (bi 0), .ref (bo 0), .ref (a 0), .ref (d 0), .ref h, .ref s, .ref f, .int 0, .int (-1)])) :: ((((((((((byQ G bi q00 ++ byQ G bo q00) ++ stW G a Z0) ++ stW G d Z0) ++ hiW G h r A 0 0 (fun _ => Z0)) ++ [(s, .inl (gc G 3, 2, .inr (.inr (.inr (.inr f2)))))]) ++ stW G b0 Z0) ++ stW G b1 Z0) ++ [(f, .inl (gc G 2, 2, .inl (fun _ => 0)))]) ++ byQ G bt q0t) ++ stW G a1 Z0) from rfl) ?_
  refine J_astore_n hC [(2, .ref (a1 0)), (1, .ref (bt 0)), (0, .ref o)] dX10_init_125 rfl (by decide) rfl ?_
  refine J_new (ci := 5) hC [.null, .null, .int 0, .int 0] wu_X5 rfl tyX5_ok dX10_init_126 wk_X10_57 wt_X5 wi_X5 (fun j hj => by rcases (show j = 0 ∨ j = 1 ∨ j = 2 ∨ j = 3 by omega) with rfl | rfl | rfl | rfl <;> rfl) (by decide) (by decide) (fun p => ?_)
  refine J_wq (show _ = (o, .inr (10, [.ref (bi 0), .ref (bo 0), .ref (a 0), .ref (d 0), .ref h, .ref s, .ref f, .int 0, .int (-1)])) :: (((((((((((byQ G bi q00 ++ byQ G bo q00) ++ stW G a Z0) ++ stW G d Z0) ++ hiW G h r A 0 0 (fun _ => Z0)) ++ [(s, .inl (gc G 3, 2, .inr (.inr (.inr (.inr f2)))))]) ++ stW G b0 Z0) ++ stW G b1 Z0) ++ [(f, .inl (gc G 2, 2, .inl (fun _ => 0)))]) ++ byQ G bt q0t) ++ stW G a1 Z0) ++ [(p, .inr (5, [.null, .null, .int 0, .int 0]))]) from rfl) ?_
  refine J_dup hC dX10_init_129 rfl ?_
  refine J_aload_n hC dX10_init_130 1 rfl rfl ?_
  refine J_aload_n hC dX10_init_131 0 rfl rfl ?_
  refine J_callC hC dX10_init_132 wl_X10_59 yc_X5 (appr_v ((o, .inr (10, [.ref (bi 0), .ref (bo 0), .ref (a 0), .ref (d 0), .ref h, .ref s, .ref f, .int 0, .int (-1)])) :: ((((((((((byQ G bi q00 ++ byQ G bo q00) ++ stW G a Z0) ++ stW G d Z0) ++ hiW G h r A 0 0 (fun _ => Z0)) ++ [(s, .inl (gc G 3, 2, .inr (.inr (.inr (.inr f2)))))]) ++ stW G b0 Z0) ++ stW G b1 Z0) ++ [(f, .inl (gc G 2, 2, .inl (fun _ => 0)))]) ++ byQ G bt q0t) ++ stW G a1 Z0)) (c_X5_init _ G p (bt 0) (a1 0))) rfl rfl ⟨Nat.le_of_ble_eq_true rfl, Nat.le_of_ble_eq_true rfl⟩ (Nat.le_of_ble_eq_true rfl) (Nat.le_of_ble_eq_true rfl) (Nat.le_of_ble_eq_true rfl) (fun s9 _ => ?_)
  refine J_perm (ws' := prR G p s9 bt a1 q0t Z0 ++ ((o, .inr (10, [.ref (bi 0), .ref (bo 0), .ref (a 0), .ref (d 0), .ref h, .ref s, .ref f, .int 0, .int (-1)])) :: ((((((((byQ G bi q00 ++ byQ G bo q00) ++ stW G a Z0) ++ stW G d Z0) ++ hiW G h r A 0 0 (fun _ => Z0)) ++ [(s, .inl (gc G 3, 2, .inr (.inr (.inr (.inr f2)))))]) ++ stW G b0 Z0) ++ stW G b1 Z0) ++ [(f, .inl (gc G 2, 2, .inl (fun _ => 0)))]))) (permS (fun e => by simp only [nI_z, ofW, oW, slW, prR, scR, prW, scW, List.map_cons, List.map_append, List.sum_cons, List.sum_append, List.map_nil, List.sum_nil, List.cons_append, List.nil_append]; omega)) ?_
  refine J_callVi hC dX10_init_135 wl_X10_62 yi_X5_readText (app_i ((o, .inr (10, [.ref (bi 0), .ref (bo 0), .ref (a 0), .ref (d 0), .ref h, .ref s, .ref f, .int 0, .int (-1)])) :: ((((((((byQ G bi q00 ++ byQ G bo q00) ++ stW G a Z0) ++ stW G d Z0) ++ hiW G h r A 0 0 (fun _ => Z0)) ++ [(s, .inl (gc G 3, 2, .inr (.inr (.inr (.inr f2)))))]) ++ stW G b0 Z0) ++ stW G b1 Z0) ++ [(f, .inl (gc G 2, 2, .inl (fun _ => 0)))])) (c_X5_readText _ G p s9 bt a1 f0t q0t Z0 (fun _ _ => rfl) (by rw [q0t_2]; decide) CI_Z0)) rfl rfl 0 5 rfl rfl ⟨Nat.le_of_ble_eq_true rfl, Nat.le_of_ble_eq_true rfl⟩ (Nat.le_of_ble_eq_true rfl) (Nat.le_of_ble_eq_true rfl) (Nat.le_of_ble_eq_true rfl) (fun r9 u9 h9 => ?_)
  obtain ⟨t, ht⟩ : ∃ z9, z9 = c_txt f0t q0t.2 Z0 := ⟨_, rfl⟩
  refine J_wq (congrArg (fun z9 => prW G p s9 bt a1 f0t q0t z9 u9 ++ ((o, .inr (10, [.ref (bi 0), .ref (bo 0), .ref (a 0), .ref (d 0), .ref h, .ref s, .ref f, .int 0, .int (-1)])) :: ((((((((byQ G bi q00 ++ byQ G bo q00) ++ stW G a Z0) ++ stW G d Z0) ++ hiW G h r A 0 0 (fun _ => Z0)) ++ [(s, .inl (gc G 3, 2, .inr (.inr (.inr (.inr f2)))))]) ++ stW G b0 Z0) ++ stW G b1 Z0) ++ [(f, .inl (gc G 2, 2, .inl (fun _ => 0)))]))) ht.symm) ?_
  have ht2 : t = t0c := by rw [ht, q0t_2, t0c]
  refine J_pop hC dX10_init_138 rfl ?_
  refine J_aload_n hC dX10_init_139 2 rfl rfl ?_
  refine J_get (v := .ref (a 0)) hC wu_X10 rfl dX10_init_140 26 2 (by decide) wf_X10_22 rfl rfl ?_
  refine J_aload_n hC dX10_init_143 0 rfl rfl ?_
  have g0 : List.Perm (prW G p s9 bt a1 f0t q0t t u9 ++ ((o, .inr (10, [.ref (bi 0), .ref (bo 0), .ref (a 0), .ref (d 0), .ref h, .ref s, .ref f, .int 0, .int (-1)])) :: ((((((((byQ G bi q00 ++ byQ G bo q00) ++ stW G a Z0) ++ stW G d Z0) ++ hiW G h r A 0 0 (fun _ => Z0)) ++ [(s, .inl (gc G 3, 2, .inr (.inr (.inr (.inr f2)))))]) ++ stW G b0 Z0) ++ stW G b1 Z0) ++ [(f, .inl (gc G 2, 2, .inl (fun _ => 0)))])) : va_W) ((stW G a Z0 ++ stW G a1 t.1) ++ (((p, .inr (5, [.ref s9, .ref (a1 0), .int t.2.2.1, .int t.2.2.2])) :: scW G s9 bt f0t q0t t.2.1 u9) ++ ((o, .inr (10, [.ref (bi 0), .ref (bo 0), .ref (a 0), .ref (d 0), .ref h, .ref s, .ref f, .int 0, .int (-1)])) :: (((((((byQ G bi q00 ++ byQ G bo q00) ++ stW G d Z0) ++ hiW G h r A 0 0 (fun _ => Z0)) ++ [(s, .inl (gc G 3, 2, .inr (.inr (.inr (.inr f2)))))]) ++ stW G b0 Z0) ++ stW G b1 Z0) ++ [(f, .inl (gc G 2, 2, .inl (fun _ => 0)))]))) : va_W) := permS (fun e => by simp only [nI_z, ofW, oW, slW, prR, scR, prW, scW, List.map_cons, List.map_append, List.sum_cons, List.sum_append, List.map_nil, List.sum_nil, List.cons_append, List.nil_append]; omega)
  obtain ⟨u9u, hu⟩ : ∃ z9 : Nat → Nat → Nat, z9 = (fun i => [a, d, bi, bo, (fun j => [o, h, r, s, f].getD j 0), A 0, A 1, A 2, A 3, A 4, A 5, A 6, A 7, b0, b1].getD i a) := ⟨_, rfl⟩
  have hA : hiW G h r A 0 0 (fun _ => Z0) = hiW G h r (fun i => u9u (5 + i)) 0 0 (fun _ => Z0) := by
    rw [hu]
    unfold hiW hiS
    congr 2
    · rw [show hiF A = hiF _ from funext fun i => ?_]
      unfold hiF
      split
      · rename_i hi
        rcases (show i = 0 ∨ i = 1 ∨ i = 2 ∨ i = 3 ∨ i = 4 ∨ i = 5 ∨ i = 6 ∨ i = 7 by omega) with e9 | e9 | e9 | e9 | e9 | e9 | e9 | e9 <;> rw [e9] <;> rfl
      · rfl
  have hB : f2 = slF (fun i => u9u (13 + i)) := by
    rw [hf2, hf1, hf0, hu]
    funext i
    unfold va_up slF
    by_cases e1 : i = 1
    · subst e1; rfl
    · by_cases e0 : i = 0
      · subst e0; rfl
      · rw [if_neg e1, if_neg e0, if_neg (by omega)]
  have hF : ofW G u9u (t.1, Z0, (0, 0, fun _ => Z0), fun _ => Z0, fun _ => 0, q00, q00, 0, -1) = (oW G o (oR u9u) a t.1 0 (-1) ++ (hiW G h r A 0 0 (fun _ => Z0) ++ (stW G d Z0 ++ (byQ G bi q00 ++ (byQ G bo q00 ++ ((s, .inl (gc G 3, 2, .inr (.inr (.inr (.inr f2))))) :: (f, .inl (gc G 2, 2, .inl (fun _ => 0))) :: (stW G b0 Z0 ++ stW G b1 Z0)))))) : va_W) := by
    rw [hA, hB, hu]; rfl
  have hO : ((o, .inr (10, [.ref (bi 0), .ref (bo 0), .ref (a 0), .ref (d 0), .ref h, .ref s, .ref f, .int 0, .int (-1)])) :: stW G a t.1 : va_W) = oW G o (oR u9u) a t.1 0 (-1) := by rw [hu]; rfl
  have g1 : List.Perm ((stW G a t.1 ++ stW G a1 t.1) ++ (((p, .inr (5, [.ref s9, .ref (a1 0), .int t.2.2.1, .int t.2.2.2])) :: scW G s9 bt f0t q0t t.2.1 u9) ++ ((o, .inr (10, [.ref (bi 0), .ref (bo 0), .ref (a 0), .ref (d 0), .ref h, .ref s, .ref f, .int 0, .int (-1)])) :: (((((((byQ G bi q00 ++ byQ G bo q00) ++ stW G d Z0) ++ hiW G h r A 0 0 (fun _ => Z0)) ++ [(s, .inl (gc G 3, 2, .inr (.inr (.inr (.inr f2)))))]) ++ stW G b0 Z0) ++ stW G b1 Z0) ++ [(f, .inl (gc G 2, 2, .inl (fun _ => 0)))]))) : va_W) (ofW G u9u (t.1, Z0, (0, 0, fun _ => Z0), fun _ => Z0, fun _ => 0, q00, q00, 0, -1) ++ (((p, .inr (5, [.ref s9, .ref (a1 0), .int t.2.2.1, .int t.2.2.2])) :: scW G s9 bt f0t q0t t.2.1 u9) ++ stW G a1 t.1) : va_W) := by
    rw [hF, ← hO]
    exact permS (fun e => by simp only [nI_z, ofW, oW, slW, prR, scR, prW, scW, List.map_cons, List.map_append, List.sum_cons, List.sum_append, List.map_nil, List.sum_nil, List.cons_append, List.nil_append]; omega)
  refine J_callVv hC dX10_init_144 wl_X10_66 yi_X8_takeFrom (fr_v (c_X8_takeFrom (jl x) G a a1 Z0 t.1) g0 (fun _ => g1)) rfl rfl 31 8 rfl rfl ⟨Nat.le_of_ble_eq_true rfl, Nat.le_of_ble_eq_true rfl⟩ (Nat.le_of_ble_eq_true rfl) (Nat.le_of_ble_eq_true rfl) (Nat.le_of_ble_eq_true rfl) (fun u7 _ => ?_)
  refine J_sub _ (List.Perm.refl _) ?_
  exact J_vret hC hR dX10_init_147 u9u (by rw [hu]; rfl) (by rw [ht2]; rfl) (by decide) (by decide)


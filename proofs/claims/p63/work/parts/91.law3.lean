/-! THE LAW: acts, loaded -/
theorem catchN {S : Type} {x : JX} {G : gT} {R : Room} {cc : ByteArray} {w0 : Cond} {own : String} {nL : Nat} {hh : List (Nat × Nat × Nat × Nat)} {mc ms pc : Nat} {W1 : S → va_W} {post : Int32 → S → Prop} (hC : JC x G R cc w0 own nL) (hR : JW x G hh post W1 mc ms) (pre suf : List ExceptionTableEntry) {a b h c : Nat} (hhe : tableOf hh = pre ++ ⟨a, b, h, c⟩ :: suf) {E : String} (hpre : ∀ z ∈ pre, covers z pc = false) (hcov : covers ⟨a, b, h, c⟩ pc = true) (hc0 : c ≠ 0) (hl : Cond.classLink own c E ∈ GW) (hE : Cond.castable E E ∈ TWL) : catchTo x own pc E h := by
  obtain ⟨-, -, ht, hxT, -, -⟩ := hR
  exact ⟨pre, ⟨a, b, h, c⟩, suf, E, ht.trans hhe, fun z hz => Or.inl (hpre z hz), hcov, hc0, hC.2.2.2.2.1 _ (List.mem_cons_of_mem _ hl), (hxT _ hE).use (twl_tab _ hE), rfl⟩
set_option maxHeartbeats 4000000 in
set_option maxRecDepth 100000 in
theorem w_acts (l : Launch) (G : gT) (u : Nat → Nat → Nat) (z : OS) (n mc xx y t q : Nat) (hx : xx < 2 ^ 31) (hy : y = xx / 32) (ht : t = y / 16) (hq : q = xx % 32) (hS : HV n mc (zS z)) (hI : CI (zS z)) (hzn : zn z < 8) (hzk : zk z ≤ 8) (hst : l.stackTraces = false) : WX l yL_acts cL_acts 5 [(38, 156, 230, 112), (157, 167, 230, 112), (168, 179, 230, 112), (180, 193, 230, 112), (194, 205, 230, 112), (206, 229, 230, 112)] { frames := 9, cells := 3, slots := 18, locals := 160 } [.ref (u 4 0), .int (nI xx)] G (ofW G u z) (fun r9 (z9 : OS) => r9 = (hActs n (zS z) y t q).1 ∧ zS z9 = (hActs n (zS z) y t q).2 ∧ zn z9 < 8 ∧ zk z9 ≤ 8) (fun z9 => ofW G u z9) := by
  refine jw_i (own := RL) (by decide) rfl (Nat.le_of_ble_eq_true rfl) (fun x hl hC hR => ?_)
  subst hl
  have hn := hS.1.2
  have evc : vcO (zS z) = 3 := hS.vc
  have ebc : bcO (zS z) = n := hS.bc
  refine J_iload_n hC dL_acts_0 1 rfl rfl ?_
  refine J_bipush (v := 32) hC dL_acts_1 rfl ?_
  refine J_idiv (v := nI y) hC dL_acts_3 (by decide) (by rw [hy]; exact nDv hx (by decide) (by decide)) ?_
  refine J_istore_n hC [(2, .int (nI y)), (0, .ref (u 4 0)), (1, .int (nI xx))] dL_acts_4 rfl (by decide) rfl ?_
  refine J_iload_n hC dL_acts_5 0 rfl rfl ?_
  refine J_bipush (v := 16) hC dL_acts_6 rfl ?_
  refine J_idiv (v := nI t) hC dL_acts_8 (by decide) (by rw [ht]; exact nDv (by omega) (by decide) (by decide)) ?_
  refine J_istore_n hC [(3, .int (nI t)), (2, .int (nI y)), (0, .ref (u 4 0)), (1, .int (nI xx))] dL_acts_9 rfl (by decide) rfl ?_
  have p38 : ¬ (12 ≤ q ∧ q < 15 ∧ n = 0) → J x G (ofW G u z) 0 0 [(3, .int (nI t)), (2, .int (nI y)), (0, .ref (u 4 0)), (1, .int (nI xx))] [] 38 := by
    intro hg
    refine J_iload_n hC dL_acts_38 3 rfl rfl ?_
    refine J_bipush (v := 32) hC dL_acts_39 rfl ?_
    refine J_irem (v := nI q) hC dL_acts_41 (by decide) (by rw [hq]; exact nMd hx (by decide) (by decide)) ?_
    have hq32 : q < 32 := by omega
    rcases (show q < 12 ∨ (12 ≤ q ∧ q < 15) ∨ q = 15 ∨ q = 16 ∨ (17 ≤ q ∧ q < 19) ∨ 19 ≤ q by omega) with c | c | c | c | c | c
    · refine J_tabIn (tgt := 132) hC dL_acts_42 (tb_lo (by omega)) (tb_hi (by omega)) (by rw [tb_i (by omega)]; exact (by decide : ∀ i : Fin 12, (#[90, 90, 90, 90, 90, 90, 90, 90, 90, 90, 90, 90, 115, 115, 115, 126, 138, 152, 152] : Array Int)[i.1]? = some 90) ⟨q, c⟩) (by decide) ?_
      have hA : hActs n (zS z) y t q = hPrint n (zS z) y t := by rw [hActs, if_neg hg, if_pos c]
      refine J_aload_n hC dL_acts_132 2 rfl rfl ?_
      refine J_iload_n hC dL_acts_133 1 rfl rfl ?_
      refine J_iconst (v := 3) hC dL_acts_134 rfl ?_
      refine J_irem (v := nI (y % 3)) hC dL_acts_135 (by decide) (nMd (by omega) (by decide) (by decide)) ?_
      refine J_aload_n hC dL_acts_136 2 rfl rfl ?_
      refine J_callVi hC dL_acts_137 wl_L_89 yi_X10_day (lo_i [] (c_X10_day _ G (u 4 0) (oR u) (u 0) (zS z) (zc z) (zp z) hI)) rfl rfl 0 10 (of_0 G u z) rfl ⟨Nat.le_of_ble_eq_true rfl, Nat.le_of_ble_eq_true rfl⟩ (Nat.le_of_ble_eq_true rfl) (Nat.le_of_ble_eq_true rfl) (Nat.le_of_ble_eq_true rfl) (fun r9 u9 h9 => ?_)
      subst h9
      refine J_iload_n hC dL_acts_140 0 rfl rfl ?_
      refine J_bipush (v := 36) hC dL_acts_141 rfl ?_
      refine J_irem (v := nI (t % 36)) hC dL_acts_143 (by decide) (nMd (by omega) (by decide) (by decide)) ?_
      refine J_iadd (v := zS z 16 0 + nI (t % 36)) hC dL_acts_144 rfl ?_
      refine J_iconst (v := 2) hC dL_acts_145 rfl ?_
      refine J_isub (v := hDay (zS z) t) hC dL_acts_146 rfl ?_
      refine J_iload_n hC dL_acts_147 0 rfl rfl ?_
      refine J_bipush (v := 64) hC dL_acts_148 rfl ?_
      refine J_idiv (v := nI (t / 64)) hC dL_acts_150 (by decide) (nDv (by omega) (by decide) (by decide)) ?_
      refine J_iconst (v := 3) hC dL_acts_151 rfl ?_
      refine J_irem (v := nI (t / 64 % 3)) hC dL_acts_152 (by decide) (nMd (by omega) (by decide) (by decide)) ?_
      refine J_callTiC hC hR dL_acts_153 wl_L_92 yi_X10_print (b_print _ G u z (nI (y % 3)) (hDay (zS z) t) (nI (t / 64 % 3)) hzn hzk hI hst) rfl rfl 0 10 (of_0 G u z) rfl ⟨Nat.le_of_ble_eq_true rfl, Nat.le_of_ble_eq_true rfl⟩ (Nat.le_of_ble_eq_true rfl) (Nat.le_of_ble_eq_true rfl) (Nat.le_of_ble_eq_true rfl) (fun u9 q9 hp => ?_) (fun r9 w9 h9 => ?_)
      · have k1 : ¬ nI (y % 3) < 0 ∧ nI (y % 3) < nI (vcO (zS z)) := by rw [evc]; exact in3 (Nat.mod_lt _ (by decide))
        have k2 : ¬ nI (t / 64 % 3) < 0 ∧ ¬ 2 < nI (t / 64 % 3) := ⟨nI_pos (by omega), nI_nlt (a := 2) (b := t / 64 % 3) (by omega) (by decide)⟩
        have k3 : u9 = 2 ∧ ¬ s_refusal (zS z) (nI (y % 3)) (hDay (zS z) t) (bcO (zS z)) = 0 := by
          rcases hp with hp | hp | hp
          · exact absurd k1 hp.2
          · exact absurd k2 hp.2.2
          · exact ⟨hp.1, hp.2.2.2⟩
        obtain ⟨rfl, k4⟩ := k3
        rw [ebc] at k4
        rw [hPrint, if_neg k4] at hA
        refine ⟨230, catchN hC hR [] [⟨157, 167, 230, 112⟩, ⟨168, 179, 230, 112⟩, ⟨180, 193, 230, 112⟩, ⟨194, 205, 230, 112⟩, ⟨206, 229, 230, 112⟩] rfl (fun z hz => absurd hz List.not_mem_nil) (by decide) (by decide) wk_L_112 (by decide), ?_⟩
        refine J_astore hC [(4, .ref q9), (3, .int (nI t)), (2, .int (nI y)), (0, .ref (u 4 0)), (1, .int (nI xx))] dL_acts_230 (by decide) rfl ?_
        refine J_bipush (v := -9) hC dL_acts_232 (by decide +kernel) ?_
        exact J_iretW hC hR dL_acts_234 z (by rw [hA]; exact ⟨rfl, rfl, hzn, hzk⟩) rfl (by decide) (by decide)
      · obtain ⟨-, -, k3, k4⟩ := h9
        rw [ebc] at k3 k4
        rw [hPrint, if_pos k3] at hA
        exact J_iretW hC hR dL_acts_156 (zR z (s_bookAdd (zS z) (nI (y % 3)) (hDay (zS z) t) (nI (t / 64 % 3)) (bcO (zS z)))) (by rw [hA, ebc]; exact ⟨k4.trans (nDv (by omega) (by decide) (by decide)), rfl, (Nat.mod_lt _ (by decide)), (by show min (zk z + 1) 8 ≤ 8; omega)⟩) rfl (by decide) (by decide)
    · refine J_tabIn (tgt := 157) hC dL_acts_42 (tb_lo (by omega)) (tb_hi (by omega)) (by rw [tb_i (by omega)]; exact (by decide : ∀ i : Fin 15, 12 ≤ i.1 → (#[90, 90, 90, 90, 90, 90, 90, 90, 90, 90, 90, 90, 115, 115, 115, 126, 138, 152, 152] : Array Int)[i.1]? = some 115) ⟨q, c.2⟩ c.1) (by decide) ?_
      have hn0 : 0 < n := Nat.pos_of_ne_zero (fun h9 => hg ⟨c.1, c.2, h9⟩)
      have hA : hActs n (zS z) y t q = hRet n (zS z) (y % ((n + 3) / 4)) := by rw [hActs, if_neg hg, if_neg (by omega), if_pos c.2]
      have hpg : y % ((n + 3) / 4) < (n + 3) / 4 := Nat.mod_lt _ (by omega)
      refine J_aload_n hC dL_acts_157 2 rfl rfl ?_
      refine J_iload_n hC dL_acts_158 1 rfl rfl ?_
      refine J_aload_n hC dL_acts_159 2 rfl rfl ?_
      refine J_callVi hC dL_acts_160 wl_L_86 yi_X10_pageCount (lo_i [] (c_X10_pageCount _ G (u 4 0) (oR u) (u 0) (zS z) (zc z) (zp z) hI)) rfl rfl 0 10 (of_0 G u z) rfl ⟨Nat.le_of_ble_eq_true rfl, Nat.le_of_ble_eq_true rfl⟩ (Nat.le_of_ble_eq_true rfl) (Nat.le_of_ble_eq_true rfl) (Nat.le_of_ble_eq_true rfl) (fun r9 u9 h9 => ?_)
      subst h9
      refine J_topi (w := nI ((n + 3) / 4)) (by rw [ebc]; rfl) ?_
      refine J_irem (v := nI (y % ((n + 3) / 4))) hC dL_acts_163 (nI_ne0 (by omega) (by omega)) (nMd (by omega) (by omega) (by omega)) ?_
      obtain ⟨pg, hpe⟩ : ∃ z9, z9 = y % ((n + 3) / 4) := ⟨_, rfl⟩
      rw [← hpe] at hpg hA ⊢
      refine J_callTiC hC hR dL_acts_164 wl_L_96 yi_X10_retract (b_retract _ G u z (nI pg) hzn hzk hI hst) rfl rfl 0 10 (of_0 G u z) rfl ⟨Nat.le_of_ble_eq_true rfl, Nat.le_of_ble_eq_true rfl⟩ (Nat.le_of_ble_eq_true rfl) (Nat.le_of_ble_eq_true rfl) (Nat.le_of_ble_eq_true rfl) (fun u9 q9 hp => ?_) (fun r9 w9 h9 => ?_)
      · have k3 : u9.1 = 1 ∧ ¬ s_canPay (zS z) pg n := by
          rcases hp with hp | hp
          · exact absurd ⟨nI_pos (by omega), by rw [ebc]; exact nI_lt (by omega) (by omega)⟩ hp.2
          · obtain ⟨k1, ⟨k2, k3⟩, k4⟩ := hp
            have k5 : pg = u9.2 := nI_ij (by omega) (by rw [ebc] at k2; omega) k3
            rw [← k5, ebc] at k4
            exact ⟨k1, k4⟩
        rw [hRet, if_pos (Decidable.of_not_not k3.2)] at hA
        dsimp only
        rw [if_neg (show ¬ u9.1 = 0 by omega)]
        refine ⟨230, catchN hC hR [⟨38, 156, 230, 112⟩] [⟨168, 179, 230, 112⟩, ⟨180, 193, 230, 112⟩, ⟨194, 205, 230, 112⟩, ⟨206, 229, 230, 112⟩] rfl (by decide : ∀ z ∈ ([⟨38, 156, 230, 112⟩] : List ExceptionTableEntry), covers z 164 = false) (by decide) (by decide) wk_L_112 (by decide), ?_⟩
        refine J_astore hC [(4, .ref q9), (3, .int (nI t)), (2, .int (nI y)), (0, .ref (u 4 0)), (1, .int (nI xx))] dL_acts_230 (by decide) rfl ?_
        refine J_bipush (v := -9) hC dL_acts_232 (by decide +kernel) ?_
        exact J_iretW hC hR dL_acts_234 z (by rw [hA]; exact ⟨rfl, rfl, hzn, hzk⟩) rfl (by decide) (by decide)
      · obtain ⟨⟨k1, k2⟩, k3, k4⟩ := h9
        rw [ebc] at k1 k3 k4
        have k5 := nI_ij (by omega) (by omega) k2
        subst k5
        rw [hRet, if_neg k3] at hA
        exact J_iretW hC hR dL_acts_167 (zR z (s_takeBack (zS z) pg (bcO (zS z)) (vcO (zS z)))) (by rw [hA, ebc, evc]; exact ⟨k4, rfl, (Nat.mod_lt _ (by decide)), (by show min (zk z + 1) 8 ≤ 8; omega)⟩) rfl (by decide) (by decide)
    · refine J_tabIn (tgt := 168) hC dL_acts_42 (tb_lo (by omega)) (tb_hi (by omega)) (by rw [c]; exact (by decide : (#[90, 90, 90, 90, 90, 90, 90, 90, 90, 90, 90, 90, 115, 115, 115, 126, 138, 152, 152] : Array Int)[((nI 15).toInt - 0).toNat]? = some 126)) (by decide) ?_
      have hA : hActs n (zS z) y t q = hSet 2 (y % 3) (nI (t % 101)) (zS z) := by rw [hActs, if_neg hg, if_neg (by omega), if_neg (by omega), if_pos c]
      rw [hSet] at hA
      refine J_aload_n hC dL_acts_168 2 rfl rfl ?_
      refine J_iload_n hC dL_acts_169 1 rfl rfl ?_
      refine J_iconst (v := 3) hC dL_acts_170 rfl ?_
      refine J_irem (v := nI (y % 3)) hC dL_acts_171 (by decide) (nMd (by omega) (by decide) (by decide)) ?_
      refine J_iload_n hC dL_acts_172 0 rfl rfl ?_
      refine J_bipush (v := 101) hC dL_acts_173 rfl ?_
      refine J_irem (v := nI (t % 101)) hC dL_acts_175 (by decide) (nMd (by omega) (by decide) (by decide)) ?_
      refine J_callTiC hC hR dL_acts_176 wl_L_99 yi_X10_setTrust (b_setTrust _ G u z (nI (y % 3)) (nI (t % 101)) hzn hzk hI hst) rfl rfl 0 10 (of_0 G u z) rfl ⟨Nat.le_of_ble_eq_true rfl, Nat.le_of_ble_eq_true rfl⟩ (Nat.le_of_ble_eq_true rfl) (Nat.le_of_ble_eq_true rfl) (Nat.le_of_ble_eq_true rfl) (fun u9 q9 hp => ?_) (fun r9 w9 h9 => ?_)
      · exfalso
        rcases hp with hp | hp
        · exact hp.2 (by rw [evc]; exact in3 (Nat.mod_lt _ (by decide)))
        · exact hp.2.2 ⟨nI_nlt (a := t % 101) (b := 0) (by omega) (by omega), nI_nlt (a := 100) (b := t % 101) (by omega) (by omega)⟩
      · obtain ⟨⟨k1, k2⟩, k3, k4⟩ := h9
        rw [evc] at k1
        have k5 := nI_ij (by omega) (by omega) k2
        subst k5
        exact J_iretW hC hR dL_acts_179 (zR z (us (zS z) 2 (y % 3) (nI (t % 101)))) (by rw [hA]; exact ⟨k4, rfl, (Nat.mod_lt _ (by decide)), (by show min (zk z + 1) 8 ≤ 8; omega)⟩) rfl (by decide) (by decide)
    · refine J_tabIn (tgt := 180) hC dL_acts_42 (tb_lo (by omega)) (tb_hi (by omega)) (by rw [c]; exact (by decide : (#[90, 90, 90, 90, 90, 90, 90, 90, 90, 90, 90, 90, 115, 115, 115, 126, 138, 152, 152] : Array Int)[((nI 16).toInt - 0).toNat]? = some 138)) (by decide) ?_
      have hA : hActs n (zS z) y t q = hSet 1 (y % 3) (nI (1 + t % 99)) (zS z) := by rw [hActs, if_neg hg, if_neg (by omega), if_neg (by omega), if_neg (by omega), if_pos c]
      rw [hSet] at hA
      refine J_aload_n hC dL_acts_180 2 rfl rfl ?_
      refine J_iload_n hC dL_acts_181 1 rfl rfl ?_
      refine J_iconst (v := 3) hC dL_acts_182 rfl ?_
      refine J_irem (v := nI (y % 3)) hC dL_acts_183 (by decide) (nMd (by omega) (by decide) (by decide)) ?_
      refine J_iconst (v := 1) hC dL_acts_184 rfl ?_
      refine J_iload_n hC dL_acts_185 0 rfl rfl ?_
      refine J_bipush (v := 99) hC dL_acts_186 rfl ?_
      refine J_irem (v := nI (t % 99)) hC dL_acts_188 (by decide) (nMd (by omega) (by decide) (by decide)) ?_
      refine J_iadd (v := nI (1 + t % 99)) hC dL_acts_189 (nI_add 1 (t % 99)) ?_
      refine J_callTiC hC hR dL_acts_190 wl_L_103 yi_X10_setPeople (b_setPeople _ G u z (nI (y % 3)) (nI (1 + t % 99)) hzn hzk hI hst) rfl rfl 0 10 (of_0 G u z) rfl ⟨Nat.le_of_ble_eq_true rfl, Nat.le_of_ble_eq_true rfl⟩ (Nat.le_of_ble_eq_true rfl) (Nat.le_of_ble_eq_true rfl) (Nat.le_of_ble_eq_true rfl) (fun u9 q9 hp => ?_) (fun r9 w9 h9 => ?_)
      · exfalso
        rcases hp with hp | hp
        · exact hp.2 (by rw [evc]; exact in3 (Nat.mod_lt _ (by decide)))
        · exact hp.2.2 ⟨nI_nlt (a := 1 + t % 99) (b := 1) (by omega) (by omega), nI_nlt (a := 99) (b := 1 + t % 99) (by omega) (by omega)⟩
      · obtain ⟨⟨k1, k2⟩, k3, k4⟩ := h9
        rw [evc] at k1
        have k5 := nI_ij (by omega) (by omega) k2
        subst k5
        exact J_iretW hC hR dL_acts_193 (zR z (us (zS z) 1 (y % 3) (nI (1 + t % 99)))) (by rw [hA]; exact ⟨k4, rfl, (Nat.mod_lt _ (by decide)), (by show min (zk z + 1) 8 ≤ 8; omega)⟩) rfl (by decide) (by decide)
    · refine J_tabIn (tgt := 194) hC dL_acts_42 (tb_lo (by omega)) (tb_hi (by omega)) (by rw [tb_i (by omega)]; exact (by decide : ∀ i : Fin 19, 17 ≤ i.1 → (#[90, 90, 90, 90, 90, 90, 90, 90, 90, 90, 90, 90, 115, 115, 115, 126, 138, 152, 152] : Array Int)[i.1]? = some 152) ⟨q, c.2⟩ c.1) (by decide) ?_
      have hA : hActs n (zS z) y t q = hOdds (y % 3) (nI (t % 21)) (zS z) := by rw [hActs, if_neg hg, if_neg (by omega), if_neg (by omega), if_neg (by omega), if_neg (by omega), if_pos c.2]
      refine J_aload_n hC dL_acts_194 2 rfl rfl ?_
      refine J_iload_n hC dL_acts_195 1 rfl rfl ?_
      refine J_iconst (v := 3) hC dL_acts_196 rfl ?_
      refine J_irem (v := nI (y % 3)) hC dL_acts_197 (by decide) (nMd (by omega) (by decide) (by decide)) ?_
      refine J_iload_n hC dL_acts_198 0 rfl rfl ?_
      refine J_bipush (v := 21) hC dL_acts_199 rfl ?_
      refine J_irem (v := nI (t % 21)) hC dL_acts_201 (by decide) (nMd (by omega) (by decide) (by decide)) ?_
      refine J_callTiC hC hR dL_acts_202 wl_L_106 yi_X10_setOdds (b_setOdds _ G u z (nI (y % 3)) (nI (t % 21)) hzn hzk hI hst) rfl rfl 0 10 (of_0 G u z) rfl ⟨Nat.le_of_ble_eq_true rfl, Nat.le_of_ble_eq_true rfl⟩ (Nat.le_of_ble_eq_true rfl) (Nat.le_of_ble_eq_true rfl) (Nat.le_of_ble_eq_true rfl) (fun u9 q9 hp => ?_) (fun r9 w9 h9 => ?_)
      · have k1 : ¬ nI (y % 3) < 0 ∧ ¬ 2 < nI (y % 3) := ⟨nI_pos (by omega), nI_nlt (a := 2) (b := y % 3) (by omega) (by decide)⟩
        have k2 : ¬ nI (t % 21) < 0 ∧ ¬ 20 < nI (t % 21) := ⟨nI_pos (by omega), nI_nlt (a := 20) (b := t % 21) (by omega) (by decide)⟩
        have k3 : u9.1 = 1 ∧ s_sumO (zS z) - zS z 8 (y % 3) + nI (t % 21) = 0 := by
          rcases hp with hp | hp | hp
          · exact absurd k1 hp.2
          · exact absurd k2 hp.2.2
          · obtain ⟨k3, ⟨k4, k5⟩, -, k6⟩ := hp
            have k7 : y % 3 = u9.2 := nI_ij (by omega) (by omega) k5
            rw [← k7] at k6
            exact ⟨k3, k6⟩
        rw [s_sumO] at k3
        rw [hOdds, if_pos k3.2] at hA
        dsimp only
        rw [if_neg (show ¬ u9.1 = 0 by omega)]
        refine ⟨230, catchN hC hR [⟨38, 156, 230, 112⟩, ⟨157, 167, 230, 112⟩, ⟨168, 179, 230, 112⟩, ⟨180, 193, 230, 112⟩] [⟨206, 229, 230, 112⟩] rfl (by decide : ∀ z ∈ ([⟨38, 156, 230, 112⟩, ⟨157, 167, 230, 112⟩, ⟨168, 179, 230, 112⟩, ⟨180, 193, 230, 112⟩] : List ExceptionTableEntry), covers z 202 = false) (by decide) (by decide) wk_L_112 (by decide), ?_⟩
        refine J_astore hC [(4, .ref q9), (3, .int (nI t)), (2, .int (nI y)), (0, .ref (u 4 0)), (1, .int (nI xx))] dL_acts_230 (by decide) rfl ?_
        refine J_bipush (v := -9) hC dL_acts_232 (by decide +kernel) ?_
        exact J_iretW hC hR dL_acts_234 z (by rw [hA]; exact ⟨rfl, rfl, hzn, hzk⟩) rfl (by decide) (by decide)
      · obtain ⟨⟨k1, k2⟩, k3, k4, k5⟩ := h9
        have k6 := nI_ij (by omega) (by omega) k2
        subst k6
        rw [s_sumO] at k4
        rw [hOdds, if_neg k4] at hA
        exact J_iretW hC hR dL_acts_205 (zR z (us (zS z) 8 (y % 3) (nI (t % 21)))) (by rw [hA]; exact ⟨k5, rfl, (Nat.mod_lt _ (by decide)), (by show min (zk z + 1) 8 ≤ 8; omega)⟩) rfl (by decide) (by decide)
    · refine J_tabOut (tgt := 206) hC dL_acts_42 (Or.inr (by rw [nI_toInt (by omega)]; omega)) (by decide) ?_
      have hA : hActs n (zS z) y t q = hPass (t % hM q + 1) (zS z) := by rw [hActs, if_neg hg, if_neg (by omega), if_neg (by omega), if_neg (by omega), if_neg (by omega), if_neg (by omega)]
      rw [hPass] at hA
      have hM3 : 0 < hM q ∧ hM q ≤ 25 := by rw [hM]; split <;> omega
      have hzm : t % hM q < hM q := Nat.mod_lt _ hM3.1
      refine J_aload_n hC dL_acts_206 2 rfl rfl ?_
      refine J_iconst (v := 1) hC dL_acts_207 rfl ?_
      refine J_iload_n hC dL_acts_208 0 rfl rfl ?_
      have p224 : J x G (ofW G u z) 0 0 [(3, .int (nI t)), (2, .int (nI y)), (0, .ref (u 4 0)), (1, .int (nI xx))] [.int (nI (hM q)), .int (nI t), .int 1, .ref (u 4 0)] 224 := by
        refine J_irem (v := nI (t % hM q)) hC dL_acts_224 (nI_ne0 (by omega) (by omega)) (nMd (by omega) (by omega) (by omega)) ?_
        refine J_iadd (v := nI (t % hM q + 1)) hC dL_acts_225 ((nI_add 1 (t % hM q)).trans (by rw [Nat.add_comm])) ?_
        refine J_callTiC hC hR dL_acts_226 wl_L_109 yi_X10_pass (b_pass _ G u z (nI (t % hM q + 1)) hzn hzk hI hst) rfl rfl 0 10 (of_0 G u z) rfl ⟨Nat.le_of_ble_eq_true rfl, Nat.le_of_ble_eq_true rfl⟩ (Nat.le_of_ble_eq_true rfl) (Nat.le_of_ble_eq_true rfl) (Nat.le_of_ble_eq_true rfl) (fun u9 q9 hp => ?_) (fun r9 w9 h9 => ?_)
        · exact absurd hp (fun h9 => h9 ⟨nI_nlt (a := t % hM q + 1) (b := 1) (by omega) (by omega), nI_nlt (by omega) (by omega)⟩)
        · obtain ⟨⟨k1, k2, k3⟩, k4⟩ := h9
          have k5 := nI_ij (by omega) (by omega) k3
          subst k5
          exact J_iretW hC hR dL_acts_229 (zR z (s_days (t % hM q + 1) (zS z))) (by rw [hA]; exact ⟨k4, rfl, (Nat.mod_lt _ (by decide)), (by show min (zk z + 1) 8 ≤ 8; omega)⟩) rfl (by decide) (by decide)
      refine J_iload_n hC dL_acts_209 3 rfl rfl ?_
      refine J_bipush (v := 32) hC dL_acts_210 rfl ?_
      refine J_irem (v := nI q) hC dL_acts_212 (by decide) (by rw [hq]; exact nMd hx (by decide) (by decide)) ?_
      refine J_bipush (v := 29) hC dL_acts_213 rfl ?_
      refine J_ic_geN (a := q) (b := 29) (tgt := 222) hC dL_acts_215 (by decide) (by omega) (by decide) (fun c2 => ?_) (fun c2 => ?_)
      · have hm9 : hM q = 25 := if_neg (by omega)
        rw [hm9] at p224
        refine J_bipush (v := 25) hC dL_acts_222 rfl ?_
        exact p224
      · have hm9 : hM q = 3 := if_pos c2
        rw [hm9] at p224
        refine J_iconst (v := 3) hC dL_acts_218 rfl ?_
        refine J_goto (tgt := 224) hC dL_acts_219 (by decide) ?_
        exact p224
  refine J_iload_n hC dL_acts_10 3 rfl rfl ?_
  refine J_bipush (v := 32) hC dL_acts_11 rfl ?_
  refine J_irem (v := nI q) hC dL_acts_13 (by decide) (by rw [hq]; exact nMd hx (by decide) (by decide)) ?_
  refine J_bipush (v := 12) hC dL_acts_14 rfl ?_
  have hq32 : q < 32 := by omega
  refine J_ic_ltN (a := q) (b := 12) (tgt := 38) hC dL_acts_16 (by decide) (by omega) (by decide) (fun c1 => p38 (by omega)) (fun c1 => ?_)
  refine J_iload_n hC dL_acts_19 3 rfl rfl ?_
  refine J_bipush (v := 32) hC dL_acts_20 rfl ?_
  refine J_irem (v := nI q) hC dL_acts_22 (by decide) (by rw [hq]; exact nMd hx (by decide) (by decide)) ?_
  refine J_bipush (v := 15) hC dL_acts_23 rfl ?_
  refine J_ic_geN (a := q) (b := 15) (tgt := 38) hC dL_acts_25 (by decide) (by omega) (by decide) (fun c2 => p38 (by omega)) (fun c2 => ?_)
  refine J_aload_n hC dL_acts_28 2 rfl rfl ?_
  refine J_callVi hC dL_acts_29 wl_L_86 yi_X10_pageCount (lo_i [] (c_X10_pageCount _ G (u 4 0) (oR u) (u 0) (zS z) (zc z) (zp z) hI)) rfl rfl 0 10 (of_0 G u z) rfl ⟨Nat.le_of_ble_eq_true rfl, Nat.le_of_ble_eq_true rfl⟩ (Nat.le_of_ble_eq_true rfl) (Nat.le_of_ble_eq_true rfl) (Nat.le_of_ble_eq_true rfl) (fun r9 u9 h9 => ?_)
  subst h9
  refine J_topi (w := nI ((n + 3) / 4)) (by rw [ebc]; rfl) ?_
  refine J_if_neN (a := (n + 3) / 4) (tgt := 38) hC dL_acts_32 (by decide) (by omega) (fun c3 => p38 (by omega)) (fun c3 => ?_)
  refine J_bipush (v := -8) hC dL_acts_35 (by decide +kernel) ?_
  have hA : hActs n (zS z) y t q = (-8, zS z) := if_pos ⟨c1, c2, by omega⟩
  exact J_iretW hC hR dL_acts_37 (z) (by rw [hA]; exact ⟨rfl, rfl, hzn, hzk⟩) rfl (by decide) (by decide)

set_option maxHeartbeats 4000000 in
set_option maxRecDepth 100000 in
theorem w_loaded (l : Launch) (G : gT) (u : Nat → Nat → Nat) (z : OS) (hzn : zn z < 8) (hzk : zk z ≤ 8) (hqi : (zi z).2 ≤ 600) (tt : PS CT) (htt : tt = ztx z) (h0 : tt.2.2.1 = 0) (hst : l.stackTraces = false) : WX l yL_loaded cL_loaded 2 [(0, 4, 5, 31)] { frames := 10, cells := 3, slots := 15, locals := 230 } [.ref (u 4 0)] G (ofW G u z) (fun r9 (_ : Unit) => r9 = tt.1 16 9 ∧ True) (fun _ => ofW G u (zLd z tt)) := by
  refine jw_i (own := RL) (by decide) rfl (Nat.le_of_ble_eq_true rfl) (fun x hl hC hR => ?_)
  subst hl
  refine J_aload_n hC dL_loaded_0 0 rfl rfl ?_
  refine J_callTiC hC hR dL_loaded_1 wl_L_28 yi_X10_load (b_load _ G u z hzn hzk hqi tt htt hst) rfl rfl 0 10 (of_0 G u z) rfl ⟨Nat.le_of_ble_eq_true rfl, Nat.le_of_ble_eq_true rfl⟩ (Nat.le_of_ble_eq_true rfl) (Nat.le_of_ble_eq_true rfl) (Nat.le_of_ble_eq_true rfl) (fun u9 q9 hp => absurd h0 hp) (fun r9 w9 h9 => ?_)
  exact J_iretW hC hR dL_loaded_4 () ⟨h9.2, trivial⟩ rfl (by decide) (by decide)


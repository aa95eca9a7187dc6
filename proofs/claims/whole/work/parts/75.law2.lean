set_option maxRecDepth 100000 in
set_option maxHeartbeats 4000000 in
theorem k_refundOf {x : JX} {G : gT} {w0 : Cond} {b L : Nat} {xs : Nat → Int32} (hX : LX x G w0 b L xs) {ol od : Nat} {u : Nat → Nat → Nat} {m : Nat → Nat} {z : OS} {M : CT} {f : Nat → Int64} {g : Nat → UInt64} {c k n : Nat} (hp : 6 * c + 6 ≤ L) (h : REL c z M) (hk : k ≤ 600000) (hn : n ≤ 7200000) (kk : LK x G b ol od u m c k n) : J x G (LW G ol od u m z M f g) k n (lvL b u m ol od c) [] 1674 := by
  obtain ⟨hC, hst, hxT, hxN, hX, hbl, hbA, hL⟩ := hX
  have hc : c ≤ 600 := by omega
  refine J_aload_n hC dL_law_1674 1 rfl rfl ?_
  refine J_aload_n hC dL_law_1675 0 rfl rfl ?_
  refine J_iload hC dL_law_1676 5 rfl ?_
  refine J_iconst (v := nI 1) hC dL_law_1678 rfl ?_
  refine J_iadd (v := nI (6 * c + 1)) hC dL_law_1679 (nI_add _ _) ?_
  refine J_sald (v := xs (6 * c + 1)) hC hX hbl hbA dL_law_1680 (by omega) (by omega) rfl ?_
  refine J_aload_n hC dL_law_1681 3 rfl rfl ?_
  refine J_callW hC hxT hxN dL_law_1682 wl_L_253 yw_refundOf (lw_i (u := u) (m := m) (z := z) (z1 := fun (w : Nat) => z) (z2 := fun (_ : Unit) => z) (w_refundOf (jl x) G (ofW G u z) (u 4 0) ol _ (of_0 G u z) (xs (6 * c + 1)) f (b_refundOf (jl x) G u z (xs (6 * c + 1)) h.ci hst) (fun _ _ => rfl))) rfl rfl ⟨Nat.le_of_ble_eq_true rfl, Nat.le_of_ble_eq_true rfl⟩ (Nat.le_of_ble_eq_true rfl) (show k + 1 ≤ 601024 by omega) (show n + 6 ≤ 7293034 by omega) (fun r v hv => ?_)
  obtain ⟨z9, hz9⟩ : ∃ q, q = zW (fun (w : Nat) => z) (fun (_ : Unit) => z) v := ⟨_, rfl⟩
  obtain ⟨f9, hf9⟩ : ∃ q, q = fW f v := ⟨_, rfl⟩
  refine J_wq (show _ = LW G ol od u m z9 M f9 g from by rw [hz9, hf9]) ?_
  refine J_istore hC [(6, .int r), (0, .ref b), (1, .ref (u 4 0)), (2, .ref (m 0)), (3, .ref ol), (4, .ref od), (5, .int (nI (6 * c)))] dL_law_1685 (by decide) rfl ?_
  refine J_aload_n hC dL_law_1687 3 rfl rfl ?_
  refine J_aload_n hC dL_law_1688 1 rfl rfl ?_
  refine J_iload hC dL_law_1689 6 rfl ?_
  refine J_iconst (v := nI 1) hC dL_law_1691 rfl ?_
  refine J_iadd (v := nI (6 * c + 1)) hC dL_law_1692 (nI_add _ _) ?_
  refine J_sald (v := xs (6 * c + 1)) hC hX hbl hbA dL_law_1693 (by omega) (by omega) rfl ?_
  obtain ⟨fs2, hm2⟩ := lw_m G ol od u m z9 M f9 g
  refine J_callVi hC dL_law_1694 wl_L_255 yi_X11_refundOf (lm_i (c_X11_refundOf _ G m M (m_bc (M 0)) (xs (6 * c + 1)) h.bc.1 h.bc.2)) rfl rfl 275 11 hm2 rfl ⟨Nat.le_of_ble_eq_true rfl, Nat.le_of_ble_eq_true rfl⟩ (Nat.le_of_ble_eq_true rfl) (show k + 1 + 0 ≤ 601024 by omega) (show n + 6 + 0 ≤ 7293034 by omega) (fun r2 M2 h2 => ?_)
  obtain ⟨q1, q2, q3⟩ := eq_refundOf h hc (f := f) (xs (6 * c + 1)) hv h2
  rw [← hz9] at q3
  rw [← hf9] at q2
  refine J_istore hC [(7, .int r2), (6, .int r), (0, .ref b), (1, .ref (u 4 0)), (2, .ref (m 0)), (3, .ref ol), (4, .ref od), (5, .int (nI (6 * c)))] dL_law_1697 (by decide) rfl ?_
  refine J_aload_n hC dL_law_1699 4 rfl rfl ?_
  obtain ⟨fs3, hm3⟩ := lw_m G ol od u m z9 M2 f9 g
  refine J_callVi hC dL_law_1700 wl_L_149 yi_X11_thrown (lm_i (c_X11_thrown _ G m M2)) rfl rfl 275 11 hm3 rfl ⟨Nat.le_of_ble_eq_true rfl, Nat.le_of_ble_eq_true rfl⟩ (Nat.le_of_ble_eq_true rfl) (show k + 1 + 0 + 0 ≤ 601024 by omega) (show n + 6 + 0 + 0 ≤ 7293034 by omega) (fun r3 u3 h3 => ?_)
  refine J_wq (show _ = LW G ol od u m z9 M2 f9 g from rfl) ?_
  subst h3
  refine J_iload hC dL_law_1703 1 rfl ?_
  refine J_ic_eq (tgt := 1710) hC dL_law_1705 (by decide) (fun _ => ?_) (fun c9 => absurd q1 c9)
  refine J_iload hC dL_law_1710 1 rfl ?_
  refine J_if_ne (tgt := 1727) hC dL_law_1712 (by decide) (fun c9 => ?_) (fun c9 => ?_)
  · refine J_goto (tgt := 2975) hC dL_law_1727 (by decide) ?_
    refine J_lv (lv' := lvL b u m ol od c) [2, 3, 4, 5, 6, 7] rfl ?_
    refine J_wid (k' := k + 4) (n' := n + 24) (show k + 1 + 0 + 0 ≤ k + 4 by omega) (show n + 6 + 0 + 0 ≤ n + 24 by omega) ?_
    exact kk z9 M2 f9 g q3
  · refine J_aload_n hC dL_law_1715 5 rfl rfl ?_
    refine J_iconst (v := nI 0) hC dL_law_1716 rfl ?_
    refine J_lald (i := 0) (v := f9 0) hC dL_law_1717 0 rfl (by decide) (by decide) rfl ?_
    refine J_iload hC dL_law_1718 0 rfl ?_
    refine J_i2l (v := r2.toInt64) hC dL_law_1720 rfl ?_
    refine J_lcmp hC dL_law_1721 ?_
    refine J_topi (show lg_cmp (f9 0) r2.toInt64 = 0 from by rw [q2 c9]; exact lg_cmp_self _) ?_
    refine J_if_eq (tgt := 1727) hC dL_law_1722 (by decide) (fun _ => ?_) (fun c8 => absurd rfl c8)
    refine J_goto (tgt := 2975) hC dL_law_1727 (by decide) ?_
    refine J_lv (lv' := lvL b u m ol od c) [2, 3, 4, 5, 6, 7] rfl ?_
    refine J_wid (k' := k + 4) (n' := n + 24) (show k + 1 + 0 + 0 ≤ k + 4 by omega) (show n + 6 + 0 + 0 ≤ n + 24 by omega) ?_
    exact kk z9 M2 f9 g q3

set_option maxRecDepth 100000 in
set_option maxHeartbeats 4000000 in
theorem k_canRetract {x : JX} {G : gT} {w0 : Cond} {b L : Nat} {xs : Nat → Int32} (hX : LX x G w0 b L xs) {ol od : Nat} {u : Nat → Nat → Nat} {m : Nat → Nat} {z : OS} {M : CT} {f : Nat → Int64} {g : Nat → UInt64} {c k n : Nat} (hp : 6 * c + 6 ≤ L) (h : REL c z M) (hk : k ≤ 600000) (hn : n ≤ 7200000) (kk : LK x G b ol od u m c k n) : J x G (LW G ol od u m z M f g) k n (lvL b u m ol od c) [] 1730 := by
  obtain ⟨hC, hst, hxT, hxN, hX, hbl, hbA, hL⟩ := hX
  have hc : c ≤ 600 := by omega
  refine J_aload_n hC dL_law_1730 1 rfl rfl ?_
  refine J_aload_n hC dL_law_1731 0 rfl rfl ?_
  refine J_iload hC dL_law_1732 5 rfl ?_
  refine J_iconst (v := nI 1) hC dL_law_1734 rfl ?_
  refine J_iadd (v := nI (6 * c + 1)) hC dL_law_1735 (nI_add _ _) ?_
  refine J_sald (v := xs (6 * c + 1)) hC hX hbl hbA dL_law_1736 (by omega) (by omega) rfl ?_
  refine J_aload_n hC dL_law_1737 3 rfl rfl ?_
  refine J_callW hC hxT hxN dL_law_1738 wl_L_256 yw_canRetract (lw_b (u := u) (m := m) (z := z) (z1 := fun (w : Nat) => z) (z2 := fun (_ : Unit) => z) (w_canRetract (jl x) G (ofW G u z) (u 4 0) ol _ (of_0 G u z) (xs (6 * c + 1)) f (b_canRetract (jl x) G u z (xs (6 * c + 1)) h.ci hst) (fun _ _ => rfl))) rfl rfl ⟨Nat.le_of_ble_eq_true rfl, Nat.le_of_ble_eq_true rfl⟩ (Nat.le_of_ble_eq_true rfl) (show k + 1 ≤ 601024 by omega) (show n + 6 ≤ 7293034 by omega) (fun r v hv => ?_)
  obtain ⟨z9, hz9⟩ : ∃ q, q = zW (fun (w : Nat) => z) (fun (_ : Unit) => z) v := ⟨_, rfl⟩
  obtain ⟨f9, hf9⟩ : ∃ q, q = fWb f v := ⟨_, rfl⟩
  refine J_wq (show _ = LW G ol od u m z9 M f9 g from by rw [hz9, hf9]) ?_
  refine J_istore hC [(6, .int r), (0, .ref b), (1, .ref (u 4 0)), (2, .ref (m 0)), (3, .ref ol), (4, .ref od), (5, .int (nI (6 * c)))] dL_law_1741 (by decide) rfl ?_
  refine J_aload_n hC dL_law_1743 3 rfl rfl ?_
  refine J_aload_n hC dL_law_1744 1 rfl rfl ?_
  refine J_iload hC dL_law_1745 6 rfl ?_
  refine J_iconst (v := nI 1) hC dL_law_1747 rfl ?_
  refine J_iadd (v := nI (6 * c + 1)) hC dL_law_1748 (nI_add _ _) ?_
  refine J_sald (v := xs (6 * c + 1)) hC hX hbl hbA dL_law_1749 (by omega) (by omega) rfl ?_
  obtain ⟨fs2, hm2⟩ := lw_m G ol od u m z9 M f9 g
  refine J_callVi hC dL_law_1750 wl_L_258 yi_X11_canRetract (lm_i (c_X11_canRetract _ G m M (m_bc (M 0)) (xs (6 * c + 1)) h.bc.1 h.bc.2)) rfl rfl 275 11 hm2 rfl ⟨Nat.le_of_ble_eq_true rfl, Nat.le_of_ble_eq_true rfl⟩ (Nat.le_of_ble_eq_true rfl) (show k + 1 + 0 ≤ 601024 by omega) (show n + 6 + 0 ≤ 7293034 by omega) (fun r2 M2 h2 => ?_)
  obtain ⟨q1, q2, q3⟩ := eq_canRetract h hc (f := f) (xs (6 * c + 1)) hv h2
  rw [← hz9] at q3
  rw [← hf9] at q2
  refine J_istore hC [(7, .int r2), (6, .int r), (0, .ref b), (1, .ref (u 4 0)), (2, .ref (m 0)), (3, .ref ol), (4, .ref od), (5, .int (nI (6 * c)))] dL_law_1753 (by decide) rfl ?_
  refine J_aload_n hC dL_law_1755 4 rfl rfl ?_
  obtain ⟨fs3, hm3⟩ := lw_m G ol od u m z9 M2 f9 g
  refine J_callVi hC dL_law_1756 wl_L_149 yi_X11_thrown (lm_i (c_X11_thrown _ G m M2)) rfl rfl 275 11 hm3 rfl ⟨Nat.le_of_ble_eq_true rfl, Nat.le_of_ble_eq_true rfl⟩ (Nat.le_of_ble_eq_true rfl) (show k + 1 + 0 + 0 ≤ 601024 by omega) (show n + 6 + 0 + 0 ≤ 7293034 by omega) (fun r3 u3 h3 => ?_)
  refine J_wq (show _ = LW G ol od u m z9 M2 f9 g from rfl) ?_
  subst h3
  refine J_iload hC dL_law_1759 1 rfl ?_
  refine J_ic_eq (tgt := 1766) hC dL_law_1761 (by decide) (fun _ => ?_) (fun c9 => absurd q1 c9)
  refine J_iload hC dL_law_1766 1 rfl ?_
  refine J_if_ne (tgt := 1790) hC dL_law_1768 (by decide) (fun c9 => ?_) (fun c9 => ?_)
  · refine J_goto (tgt := 2975) hC dL_law_1790 (by decide) ?_
    refine J_lv (lv' := lvL b u m ol od c) [2, 3, 4, 5, 6, 7] rfl ?_
    refine J_wid (k' := k + 4) (n' := n + 24) (show k + 1 + 0 + 0 ≤ k + 4 by omega) (show n + 6 + 0 + 0 ≤ n + 24 by omega) ?_
    exact kk z9 M2 f9 g q3
  · refine J_aload_n hC dL_law_1771 5 rfl rfl ?_
    refine J_iconst (v := nI 0) hC dL_law_1772 rfl ?_
    refine J_lald (i := 0) (v := f9 0) hC dL_law_1773 0 rfl (by decide) (by decide) rfl ?_
    refine J_iload hC dL_law_1774 0 rfl ?_
    refine J_if_eq (tgt := 1783) hC dL_law_1776 (by decide) (fun c8 => ?_) (fun c8 => ?_)
    · refine J_lconst (v := 0) hC dL_law_1783 rfl ?_
      refine J_lcmp hC dL_law_1784 ?_
      refine J_topi (show lg_cmp (f9 0) 0 = 0 from by rw [q2 c9, if_pos c8]; exact lg_cmp_self _) ?_
      refine J_if_eq (tgt := 1790) hC dL_law_1785 (by decide) (fun _ => ?_) (fun c7 => absurd rfl c7)
      refine J_goto (tgt := 2975) hC dL_law_1790 (by decide) ?_
      refine J_lv (lv' := lvL b u m ol od c) [2, 3, 4, 5, 6, 7] rfl ?_
      refine J_wid (k' := k + 4) (n' := n + 24) (show k + 1 + 0 + 0 ≤ k + 4 by omega) (show n + 6 + 0 + 0 ≤ n + 24 by omega) ?_
      exact kk z9 M2 f9 g q3
    · refine J_lconst (v := 1) hC dL_law_1779 rfl ?_
      refine J_goto (tgt := 1784) hC dL_law_1780 (by decide) ?_
      refine J_lcmp hC dL_law_1784 ?_
      refine J_topi (show lg_cmp (f9 0) 1 = 0 from by rw [q2 c9, if_neg c8]; exact lg_cmp_self _) ?_
      refine J_if_eq (tgt := 1790) hC dL_law_1785 (by decide) (fun _ => ?_) (fun c7 => absurd rfl c7)
      refine J_goto (tgt := 2975) hC dL_law_1790 (by decide) ?_
      refine J_lv (lv' := lvL b u m ol od c) [2, 3, 4, 5, 6, 7] rfl ?_
      refine J_wid (k' := k + 4) (n' := n + 24) (show k + 1 + 0 + 0 ≤ k + 4 by omega) (show n + 6 + 0 + 0 ≤ n + 24 by omega) ?_
      exact kk z9 M2 f9 g q3

set_option maxRecDepth 100000 in
set_option maxHeartbeats 4000000 in
theorem k_printRefusal {x : JX} {G : gT} {w0 : Cond} {b L : Nat} {xs : Nat → Int32} (hX : LX x G w0 b L xs) {ol od : Nat} {u : Nat → Nat → Nat} {m : Nat → Nat} {z : OS} {M : CT} {f : Nat → Int64} {g : Nat → UInt64} {c k n : Nat} (hp : 6 * c + 6 ≤ L) (h : REL c z M) (hk : k ≤ 600000) (hn : n ≤ 7200000) (kk : LK x G b ol od u m c k n) : J x G (LW G ol od u m z M f g) k n (lvL b u m ol od c) [] 1793 := by
  obtain ⟨hC, hst, hxT, hxN, hX, hbl, hbA, hL⟩ := hX
  have hc : c ≤ 600 := by omega
  refine J_aload_n hC dL_law_1793 1 rfl rfl ?_
  refine J_aload_n hC dL_law_1794 0 rfl rfl ?_
  refine J_iload hC dL_law_1795 5 rfl ?_
  refine J_iconst (v := nI 1) hC dL_law_1797 rfl ?_
  refine J_iadd (v := nI (6 * c + 1)) hC dL_law_1798 (nI_add _ _) ?_
  refine J_sald (v := xs (6 * c + 1)) hC hX hbl hbA dL_law_1799 (by omega) (by omega) rfl ?_
  refine J_aload_n hC dL_law_1800 0 rfl rfl ?_
  refine J_iload hC dL_law_1801 5 rfl ?_
  refine J_iconst (v := nI 2) hC dL_law_1803 rfl ?_
  refine J_iadd (v := nI (6 * c + 2)) hC dL_law_1804 (nI_add _ _) ?_
  refine J_sald (v := xs (6 * c + 2)) hC hX hbl hbA dL_law_1805 (by omega) (by omega) rfl ?_
  refine J_aload_n hC dL_law_1806 3 rfl rfl ?_
  refine J_callW hC hxT hxN dL_law_1807 wl_L_259 yw_printRefusal (lw_i (u := u) (m := m) (z := z) (z1 := fun (w : Unit) => z) (z2 := fun (_ : Unit) => z) (w_printRefusal (jl x) G (ofW G u z) (u 4 0) ol _ (of_0 G u z) (xs (6 * c + 1)) (xs (6 * c + 2)) f (b_printRefusal (jl x) G u z (xs (6 * c + 1)) (xs (6 * c + 2)) h.ci hst) (fun _ _ => rfl))) rfl rfl ⟨Nat.le_of_ble_eq_true rfl, Nat.le_of_ble_eq_true rfl⟩ (Nat.le_of_ble_eq_true rfl) (show k + 1 ≤ 601024 by omega) (show n + 6 ≤ 7293034 by omega) (fun r v hv => ?_)
  obtain ⟨z9, hz9⟩ : ∃ q, q = zW (fun (w : Unit) => z) (fun (_ : Unit) => z) v := ⟨_, rfl⟩
  obtain ⟨f9, hf9⟩ : ∃ q, q = fW f v := ⟨_, rfl⟩
  refine J_wq (show _ = LW G ol od u m z9 M f9 g from by rw [hz9, hf9]) ?_
  refine J_istore hC [(6, .int r), (0, .ref b), (1, .ref (u 4 0)), (2, .ref (m 0)), (3, .ref ol), (4, .ref od), (5, .int (nI (6 * c)))] dL_law_1810 (by decide) rfl ?_
  refine J_aload_n hC dL_law_1812 3 rfl rfl ?_
  refine J_aload_n hC dL_law_1813 1 rfl rfl ?_
  refine J_iload hC dL_law_1814 6 rfl ?_
  refine J_iconst (v := nI 1) hC dL_law_1816 rfl ?_
  refine J_iadd (v := nI (6 * c + 1)) hC dL_law_1817 (nI_add _ _) ?_
  refine J_sald (v := xs (6 * c + 1)) hC hX hbl hbA dL_law_1818 (by omega) (by omega) rfl ?_
  refine J_aload_n hC dL_law_1819 1 rfl rfl ?_
  refine J_iload hC dL_law_1820 6 rfl ?_
  refine J_iconst (v := nI 2) hC dL_law_1822 rfl ?_
  refine J_iadd (v := nI (6 * c + 2)) hC dL_law_1823 (nI_add _ _) ?_
  refine J_sald (v := xs (6 * c + 2)) hC hX hbl hbA dL_law_1824 (by omega) (by omega) rfl ?_
  obtain ⟨fs2, hm2⟩ := lw_m G ol od u m z9 M f9 g
  refine J_callVi hC dL_law_1825 wl_L_261 yi_X11_printRefusal (lm_i (c_X11_printRefusal _ G m M (m_vc (M 0)) (m_bc (M 0)) (xs (6 * c + 1)) (xs (6 * c + 2)) h.vc.1 h.vc.2 h.bc.1 h.bc.2)) rfl rfl 275 11 hm2 rfl ⟨Nat.le_of_ble_eq_true rfl, Nat.le_of_ble_eq_true rfl⟩ (Nat.le_of_ble_eq_true rfl) (show k + 1 + 0 ≤ 601024 by omega) (show n + 6 + 0 ≤ 7293034 by omega) (fun r2 M2 h2 => ?_)
  obtain ⟨q1, q2, q3⟩ := eq_printRefusal h hc (f := f) (xs (6 * c + 1)) (xs (6 * c + 2)) hv h2
  rw [← hz9] at q3
  rw [← hf9] at q2
  refine J_istore hC [(7, .int r2), (6, .int r), (0, .ref b), (1, .ref (u 4 0)), (2, .ref (m 0)), (3, .ref ol), (4, .ref od), (5, .int (nI (6 * c)))] dL_law_1828 (by decide) rfl ?_
  refine J_aload_n hC dL_law_1830 4 rfl rfl ?_
  obtain ⟨fs3, hm3⟩ := lw_m G ol od u m z9 M2 f9 g
  refine J_callVi hC dL_law_1831 wl_L_149 yi_X11_thrown (lm_i (c_X11_thrown _ G m M2)) rfl rfl 275 11 hm3 rfl ⟨Nat.le_of_ble_eq_true rfl, Nat.le_of_ble_eq_true rfl⟩ (Nat.le_of_ble_eq_true rfl) (show k + 1 + 0 + 0 ≤ 601024 by omega) (show n + 6 + 0 + 0 ≤ 7293034 by omega) (fun r3 u3 h3 => ?_)
  refine J_wq (show _ = LW G ol od u m z9 M2 f9 g from rfl) ?_
  subst h3
  refine J_iload hC dL_law_1834 1 rfl ?_
  refine J_ic_eq (tgt := 1841) hC dL_law_1836 (by decide) (fun _ => ?_) (fun c9 => absurd q1 c9)
  refine J_iload hC dL_law_1841 1 rfl ?_
  refine J_if_ne (tgt := 1858) hC dL_law_1843 (by decide) (fun c9 => ?_) (fun c9 => ?_)
  · refine J_goto (tgt := 2975) hC dL_law_1858 (by decide) ?_
    refine J_lv (lv' := lvL b u m ol od c) [2, 3, 4, 5, 6, 7] rfl ?_
    refine J_wid (k' := k + 4) (n' := n + 24) (show k + 1 + 0 + 0 ≤ k + 4 by omega) (show n + 6 + 0 + 0 ≤ n + 24 by omega) ?_
    exact kk z9 M2 f9 g q3
  · refine J_aload_n hC dL_law_1846 5 rfl rfl ?_
    refine J_iconst (v := nI 0) hC dL_law_1847 rfl ?_
    refine J_lald (i := 0) (v := f9 0) hC dL_law_1848 0 rfl (by decide) (by decide) rfl ?_
    refine J_iload hC dL_law_1849 0 rfl ?_
    refine J_i2l (v := r2.toInt64) hC dL_law_1851 rfl ?_
    refine J_lcmp hC dL_law_1852 ?_
    refine J_topi (show lg_cmp (f9 0) r2.toInt64 = 0 from by rw [q2 c9]; exact lg_cmp_self _) ?_
    refine J_if_eq (tgt := 1858) hC dL_law_1853 (by decide) (fun _ => ?_) (fun c8 => absurd rfl c8)
    refine J_goto (tgt := 2975) hC dL_law_1858 (by decide) ?_
    refine J_lv (lv' := lvL b u m ol od c) [2, 3, 4, 5, 6, 7] rfl ?_
    refine J_wid (k' := k + 4) (n' := n + 24) (show k + 1 + 0 + 0 ≤ k + 4 by omega) (show n + 6 + 0 + 0 ≤ n + 24 by omega) ?_
    exact kk z9 M2 f9 g q3

set_option maxRecDepth 100000 in
set_option maxHeartbeats 4000000 in
theorem k_likeliestWeather {x : JX} {G : gT} {w0 : Cond} {b L : Nat} {xs : Nat → Int32} (hX : LX x G w0 b L xs) {ol od : Nat} {u : Nat → Nat → Nat} {m : Nat → Nat} {z : OS} {M : CT} {f : Nat → Int64} {g : Nat → UInt64} {c k n : Nat} (hp : 6 * c + 6 ≤ L) (h : REL c z M) (hk : k ≤ 600000) (hn : n ≤ 7200000) (kk : LK x G b ol od u m c k n) : J x G (LW G ol od u m z M f g) k n (lvL b u m ol od c) [] 1861 := by
  obtain ⟨hC, hst, hxT, hxN, hX, hbl, hbA, hL⟩ := hX
  have hc : c ≤ 600 := by omega
  refine J_aload_n hC dL_law_1861 1 rfl rfl ?_
  refine J_callVi hC dL_law_1862 wl_L_262 yi_X10_likeliestWeather (lo_i (c_X10_likeliestWeather _ G (u 4 0) (oR u) (u 0) (zS z) (zc z) (zp z) h.ci) (pf_o G u z)) rfl rfl 1 10 (lw_o G ol od u m z M f g) rfl ⟨Nat.le_of_ble_eq_true rfl, Nat.le_of_ble_eq_true rfl⟩ (Nat.le_of_ble_eq_true rfl) (show k + 0 ≤ 601024 by omega) (show n + 0 ≤ 7293034 by omega) (fun r1 u1 h1 => ?_)
  refine J_wq (show _ = LW G ol od u m z M f g from rfl) ?_
  refine J_aload_n hC dL_law_1865 2 rfl rfl ?_
  obtain ⟨fs2, hm2⟩ := lw_m G ol od u m z M f g
  refine J_callVi hC dL_law_1866 wl_L_265 yi_X11_likeliestWeather (lm_i (F := fun _ => (us M 8 2 0)) (c_X11_likeliestWeather _ G m M )) rfl rfl 275 11 hm2 rfl ⟨Nat.le_of_ble_eq_true rfl, Nat.le_of_ble_eq_true rfl⟩ (Nat.le_of_ble_eq_true rfl) (show k + 0 + 0 ≤ 601024 by omega) (show n + 0 + 0 ≤ 7293034 by omega) (fun r2 u2 h2 => ?_)
  refine J_wq (show _ = LW G ol od u m z (us M 8 2 0) f g from rfl) ?_
  have q1 : r1 = r2 := eq_likeliestWeather h hc h1 h2
  refine J_ic_eq (tgt := 2975) hC dL_law_1869 (by decide) (fun _ => ?_) (fun c9 => absurd q1 c9)
  refine J_wid (k' := k + 4) (n' := n + 24) (show k + 0 + 0 ≤ k + 4 by omega) (show n + 0 + 0 ≤ n + 24 by omega) ?_
  exact kk z (us M 8 2 0) f g (h.thr 0)

set_option maxRecDepth 100000 in
set_option maxHeartbeats 4000000 in
theorem k_tomorrowIn {x : JX} {G : gT} {w0 : Cond} {b L : Nat} {xs : Nat → Int32} (hX : LX x G w0 b L xs) {ol od : Nat} {u : Nat → Nat → Nat} {m : Nat → Nat} {z : OS} {M : CT} {f : Nat → Int64} {g : Nat → UInt64} {c k n : Nat} (hp : 6 * c + 6 ≤ L) (h : REL c z M) (hk : k ≤ 600000) (hn : n ≤ 7200000) (kk : LK x G b ol od u m c k n) : J x G (LW G ol od u m z M f g) k n (lvL b u m ol od c) [] 1874 := by
  obtain ⟨hC, hst, hxT, hxN, hX, hbl, hbA, hL⟩ := hX
  have hc : c ≤ 600 := by omega
  refine J_aload_n hC dL_law_1874 1 rfl rfl ?_
  refine J_aload_n hC dL_law_1875 0 rfl rfl ?_
  refine J_iload hC dL_law_1876 5 rfl ?_
  refine J_iconst (v := nI 1) hC dL_law_1878 rfl ?_
  refine J_iadd (v := nI (6 * c + 1)) hC dL_law_1879 (nI_add _ _) ?_
  refine J_sald (v := xs (6 * c + 1)) hC hX hbl hbA dL_law_1880 (by omega) (by omega) rfl ?_
  refine J_aload_n hC dL_law_1881 3 rfl rfl ?_
  refine J_callW hC hxT hxN dL_law_1882 wl_L_266 yw_tomorrowIn (lw_i (u := u) (m := m) (z := z) (z1 := fun (w : Nat) => z) (z2 := fun (_ : Unit) => z) (w_tomorrowIn (jl x) G (ofW G u z) (u 4 0) ol _ (of_0 G u z) (xs (6 * c + 1)) f (b_tomorrowIn (jl x) G u z (xs (6 * c + 1)) h.ci hst) (fun _ _ => rfl))) rfl rfl ⟨Nat.le_of_ble_eq_true rfl, Nat.le_of_ble_eq_true rfl⟩ (Nat.le_of_ble_eq_true rfl) (show k + 1 ≤ 601024 by omega) (show n + 6 ≤ 7293034 by omega) (fun r v hv => ?_)
  obtain ⟨z9, hz9⟩ : ∃ q, q = zW (fun (w : Nat) => z) (fun (_ : Unit) => z) v := ⟨_, rfl⟩
  obtain ⟨f9, hf9⟩ : ∃ q, q = fW f v := ⟨_, rfl⟩
  refine J_wq (show _ = LW G ol od u m z9 M f9 g from by rw [hz9, hf9]) ?_
  refine J_istore hC [(6, .int r), (0, .ref b), (1, .ref (u 4 0)), (2, .ref (m 0)), (3, .ref ol), (4, .ref od), (5, .int (nI (6 * c)))] dL_law_1885 (by decide) rfl ?_
  refine J_aload_n hC dL_law_1887 3 rfl rfl ?_
  refine J_aload_n hC dL_law_1888 1 rfl rfl ?_
  refine J_iload hC dL_law_1889 6 rfl ?_
  refine J_iconst (v := nI 1) hC dL_law_1891 rfl ?_
  refine J_iadd (v := nI (6 * c + 1)) hC dL_law_1892 (nI_add _ _) ?_
  refine J_sald (v := xs (6 * c + 1)) hC hX hbl hbA dL_law_1893 (by omega) (by omega) rfl ?_
  obtain ⟨fs2, hm2⟩ := lw_m G ol od u m z9 M f9 g
  refine J_callVi hC dL_law_1894 wl_L_268 yi_X11_tomorrowIn (lm_i (c_X11_tomorrowIn _ G m M (m_bc (M 0)) (m_vc (M 0)) (m_fc (M 0)) (m_mc (M 0)) (xs (6 * c + 1)) h.bc.1 h.bc.2 h.vc.1 h.vc.2 h.fc.1 h.fc.2 h.mc.1 h.mc.2 h.gi)) rfl rfl 275 11 hm2 rfl ⟨Nat.le_of_ble_eq_true rfl, Nat.le_of_ble_eq_true rfl⟩ (Nat.le_of_ble_eq_true rfl) (show k + 1 + 0 ≤ 601024 by omega) (show n + 6 + 0 ≤ 7293034 by omega) (fun r2 M2 h2 => ?_)
  obtain ⟨q1, q2, q3⟩ := eq_tomorrowIn h hc (f := f) (xs (6 * c + 1)) hv h2
  rw [← hz9] at q3
  rw [← hf9] at q2
  refine J_istore hC [(7, .int r2), (6, .int r), (0, .ref b), (1, .ref (u 4 0)), (2, .ref (m 0)), (3, .ref ol), (4, .ref od), (5, .int (nI (6 * c)))] dL_law_1897 (by decide) rfl ?_
  refine J_aload_n hC dL_law_1899 4 rfl rfl ?_
  obtain ⟨fs3, hm3⟩ := lw_m G ol od u m z9 M2 f9 g
  refine J_callVi hC dL_law_1900 wl_L_149 yi_X11_thrown (lm_i (c_X11_thrown _ G m M2)) rfl rfl 275 11 hm3 rfl ⟨Nat.le_of_ble_eq_true rfl, Nat.le_of_ble_eq_true rfl⟩ (Nat.le_of_ble_eq_true rfl) (show k + 1 + 0 + 0 ≤ 601024 by omega) (show n + 6 + 0 + 0 ≤ 7293034 by omega) (fun r3 u3 h3 => ?_)
  refine J_wq (show _ = LW G ol od u m z9 M2 f9 g from rfl) ?_
  subst h3
  refine J_iload hC dL_law_1903 1 rfl ?_
  refine J_ic_eq (tgt := 1910) hC dL_law_1905 (by decide) (fun _ => ?_) (fun c9 => absurd q1 c9)
  refine J_iload hC dL_law_1910 1 rfl ?_
  refine J_if_ne (tgt := 1927) hC dL_law_1912 (by decide) (fun c9 => ?_) (fun c9 => ?_)
  · refine J_goto (tgt := 2975) hC dL_law_1927 (by decide) ?_
    refine J_lv (lv' := lvL b u m ol od c) [2, 3, 4, 5, 6, 7] rfl ?_
    refine J_wid (k' := k + 4) (n' := n + 24) (show k + 1 + 0 + 0 ≤ k + 4 by omega) (show n + 6 + 0 + 0 ≤ n + 24 by omega) ?_
    exact kk z9 M2 f9 g q3
  · refine J_aload_n hC dL_law_1915 5 rfl rfl ?_
    refine J_iconst (v := nI 0) hC dL_law_1916 rfl ?_
    refine J_lald (i := 0) (v := f9 0) hC dL_law_1917 0 rfl (by decide) (by decide) rfl ?_
    refine J_iload hC dL_law_1918 0 rfl ?_
    refine J_i2l (v := r2.toInt64) hC dL_law_1920 rfl ?_
    refine J_lcmp hC dL_law_1921 ?_
    refine J_topi (show lg_cmp (f9 0) r2.toInt64 = 0 from by rw [q2 c9]; exact lg_cmp_self _) ?_
    refine J_if_eq (tgt := 1927) hC dL_law_1922 (by decide) (fun _ => ?_) (fun c8 => absurd rfl c8)
    refine J_goto (tgt := 2975) hC dL_law_1927 (by decide) ?_
    refine J_lv (lv' := lvL b u m ol od c) [2, 3, 4, 5, 6, 7] rfl ?_
    refine J_wid (k' := k + 4) (n' := n + 24) (show k + 1 + 0 + 0 ≤ k + 4 by omega) (show n + 6 + 0 + 0 ≤ n + 24 by omega) ?_
    exact kk z9 M2 f9 g q3

set_option maxRecDepth 100000 in
set_option maxHeartbeats 4000000 in
theorem k_regretCount {x : JX} {G : gT} {w0 : Cond} {b L : Nat} {xs : Nat → Int32} (hX : LX x G w0 b L xs) {ol od : Nat} {u : Nat → Nat → Nat} {m : Nat → Nat} {z : OS} {M : CT} {f : Nat → Int64} {g : Nat → UInt64} {c k n : Nat} (hp : 6 * c + 6 ≤ L) (h : REL c z M) (hk : k ≤ 600000) (hn : n ≤ 7200000) (kk : LK x G b ol od u m c k n) : J x G (LW G ol od u m z M f g) k n (lvL b u m ol od c) [] 1930 := by
  obtain ⟨hC, hst, hxT, hxN, hX, hbl, hbA, hL⟩ := hX
  have hc : c ≤ 600 := by omega
  refine J_aload_n hC dL_law_1930 1 rfl rfl ?_
  refine J_callVi hC dL_law_1931 wl_L_269 yi_X10_regretCount (lo_i (c_X10_regretCount _ G (u 4 0) (oR u) (u 0) (zS z) (zc z) (zp z) h.ci) (pf_o G u z)) rfl rfl 1 10 (lw_o G ol od u m z M f g) rfl ⟨Nat.le_of_ble_eq_true rfl, Nat.le_of_ble_eq_true rfl⟩ (Nat.le_of_ble_eq_true rfl) (show k + 0 ≤ 601024 by omega) (show n + 0 ≤ 7293034 by omega) (fun r1 u1 h1 => ?_)
  refine J_wq (show _ = LW G ol od u m z M f g from rfl) ?_
  refine J_aload_n hC dL_law_1934 2 rfl rfl ?_
  obtain ⟨fs2, hm2⟩ := lw_m G ol od u m z M f g
  refine J_callVi hC dL_law_1935 wl_L_272 yi_X11_regretCount (lm_i (F := fun _ => (us M 8 2 0)) (c_X11_regretCount _ G m M )) rfl rfl 275 11 hm2 rfl ⟨Nat.le_of_ble_eq_true rfl, Nat.le_of_ble_eq_true rfl⟩ (Nat.le_of_ble_eq_true rfl) (show k + 0 + 0 ≤ 601024 by omega) (show n + 0 + 0 ≤ 7293034 by omega) (fun r2 u2 h2 => ?_)
  refine J_wq (show _ = LW G ol od u m z (us M 8 2 0) f g from rfl) ?_
  have q1 : r1 = r2 := eq_regretCount h hc h1 h2
  refine J_ic_eq (tgt := 2975) hC dL_law_1938 (by decide) (fun _ => ?_) (fun c9 => absurd q1 c9)
  refine J_wid (k' := k + 4) (n' := n + 24) (show k + 0 + 0 ≤ k + 4 by omega) (show n + 0 + 0 ≤ n + 24 by omega) ?_
  exact kk z (us M 8 2 0) f g (h.thr 0)

set_option maxRecDepth 100000 in
set_option maxHeartbeats 4000000 in
theorem k_regretAt {x : JX} {G : gT} {w0 : Cond} {b L : Nat} {xs : Nat → Int32} (hX : LX x G w0 b L xs) {ol od : Nat} {u : Nat → Nat → Nat} {m : Nat → Nat} {z : OS} {M : CT} {f : Nat → Int64} {g : Nat → UInt64} {c k n : Nat} (hp : 6 * c + 6 ≤ L) (h : REL c z M) (hk : k ≤ 600000) (hn : n ≤ 7200000) (kk : LK x G b ol od u m c k n) : J x G (LW G ol od u m z M f g) k n (lvL b u m ol od c) [] 1943 := by
  obtain ⟨hC, hst, hxT, hxN, hX, hbl, hbA, hL⟩ := hX
  have hc : c ≤ 600 := by omega
  refine J_aload_n hC dL_law_1943 1 rfl rfl ?_
  refine J_aload_n hC dL_law_1944 0 rfl rfl ?_
  refine J_iload hC dL_law_1945 5 rfl ?_
  refine J_iconst (v := nI 1) hC dL_law_1947 rfl ?_
  refine J_iadd (v := nI (6 * c + 1)) hC dL_law_1948 (nI_add _ _) ?_
  refine J_sald (v := xs (6 * c + 1)) hC hX hbl hbA dL_law_1949 (by omega) (by omega) rfl ?_
  refine J_aload_n hC dL_law_1950 3 rfl rfl ?_
  refine J_callW hC hxT hxN dL_law_1951 wl_L_273 yw_regretAt (lw_i (u := u) (m := m) (z := z) (z1 := fun (w : Nat) => z) (z2 := fun (_ : Unit) => z) (w_regretAt (jl x) G (ofW G u z) (u 4 0) ol _ (of_0 G u z) (xs (6 * c + 1)) f (b_regretAt (jl x) G u z (xs (6 * c + 1)) h.ci hst) (fun _ _ => rfl))) rfl rfl ⟨Nat.le_of_ble_eq_true rfl, Nat.le_of_ble_eq_true rfl⟩ (Nat.le_of_ble_eq_true rfl) (show k + 1 ≤ 601024 by omega) (show n + 6 ≤ 7293034 by omega) (fun r v hv => ?_)
  obtain ⟨z9, hz9⟩ : ∃ q, q = zW (fun (w : Nat) => z) (fun (_ : Unit) => z) v := ⟨_, rfl⟩
  obtain ⟨f9, hf9⟩ : ∃ q, q = fW f v := ⟨_, rfl⟩
  refine J_wq (show _ = LW G ol od u m z9 M f9 g from by rw [hz9, hf9]) ?_
  refine J_istore hC [(6, .int r), (0, .ref b), (1, .ref (u 4 0)), (2, .ref (m 0)), (3, .ref ol), (4, .ref od), (5, .int (nI (6 * c)))] dL_law_1954 (by decide) rfl ?_
  refine J_aload_n hC dL_law_1956 3 rfl rfl ?_
  refine J_aload_n hC dL_law_1957 1 rfl rfl ?_
  refine J_iload hC dL_law_1958 6 rfl ?_
  refine J_iconst (v := nI 1) hC dL_law_1960 rfl ?_
  refine J_iadd (v := nI (6 * c + 1)) hC dL_law_1961 (nI_add _ _) ?_
  refine J_sald (v := xs (6 * c + 1)) hC hX hbl hbA dL_law_1962 (by omega) (by omega) rfl ?_
  obtain ⟨fs2, hm2⟩ := lw_m G ol od u m z9 M f9 g
  refine J_callVi hC dL_law_1963 wl_L_275 yi_X11_regretAt (lm_i (c_X11_regretAt _ G m M (m_mc (M 0)) (xs (6 * c + 1)) h.mc.1 h.mc.2)) rfl rfl 275 11 hm2 rfl ⟨Nat.le_of_ble_eq_true rfl, Nat.le_of_ble_eq_true rfl⟩ (Nat.le_of_ble_eq_true rfl) (show k + 1 + 0 ≤ 601024 by omega) (show n + 6 + 0 ≤ 7293034 by omega) (fun r2 M2 h2 => ?_)
  obtain ⟨q1, q2, q3⟩ := eq_regretAt h hc (f := f) (xs (6 * c + 1)) hv h2
  rw [← hz9] at q3
  rw [← hf9] at q2
  refine J_istore hC [(7, .int r2), (6, .int r), (0, .ref b), (1, .ref (u 4 0)), (2, .ref (m 0)), (3, .ref ol), (4, .ref od), (5, .int (nI (6 * c)))] dL_law_1966 (by decide) rfl ?_
  refine J_aload_n hC dL_law_1968 4 rfl rfl ?_
  obtain ⟨fs3, hm3⟩ := lw_m G ol od u m z9 M2 f9 g
  refine J_callVi hC dL_law_1969 wl_L_149 yi_X11_thrown (lm_i (c_X11_thrown _ G m M2)) rfl rfl 275 11 hm3 rfl ⟨Nat.le_of_ble_eq_true rfl, Nat.le_of_ble_eq_true rfl⟩ (Nat.le_of_ble_eq_true rfl) (show k + 1 + 0 + 0 ≤ 601024 by omega) (show n + 6 + 0 + 0 ≤ 7293034 by omega) (fun r3 u3 h3 => ?_)
  refine J_wq (show _ = LW G ol od u m z9 M2 f9 g from rfl) ?_
  subst h3
  refine J_iload hC dL_law_1972 1 rfl ?_
  refine J_ic_eq (tgt := 1979) hC dL_law_1974 (by decide) (fun _ => ?_) (fun c9 => absurd q1 c9)
  refine J_iload hC dL_law_1979 1 rfl ?_
  refine J_if_ne (tgt := 1996) hC dL_law_1981 (by decide) (fun c9 => ?_) (fun c9 => ?_)
  · refine J_goto (tgt := 2975) hC dL_law_1996 (by decide) ?_
    refine J_lv (lv' := lvL b u m ol od c) [2, 3, 4, 5, 6, 7] rfl ?_
    refine J_wid (k' := k + 4) (n' := n + 24) (show k + 1 + 0 + 0 ≤ k + 4 by omega) (show n + 6 + 0 + 0 ≤ n + 24 by omega) ?_
    exact kk z9 M2 f9 g q3
  · refine J_aload_n hC dL_law_1984 5 rfl rfl ?_
    refine J_iconst (v := nI 0) hC dL_law_1985 rfl ?_
    refine J_lald (i := 0) (v := f9 0) hC dL_law_1986 0 rfl (by decide) (by decide) rfl ?_
    refine J_iload hC dL_law_1987 0 rfl ?_
    refine J_i2l (v := r2.toInt64) hC dL_law_1989 rfl ?_
    refine J_lcmp hC dL_law_1990 ?_
    refine J_topi (show lg_cmp (f9 0) r2.toInt64 = 0 from by rw [q2 c9]; exact lg_cmp_self _) ?_
    refine J_if_eq (tgt := 1996) hC dL_law_1991 (by decide) (fun _ => ?_) (fun c8 => absurd rfl c8)
    refine J_goto (tgt := 2975) hC dL_law_1996 (by decide) ?_
    refine J_lv (lv' := lvL b u m ol od c) [2, 3, 4, 5, 6, 7] rfl ?_
    refine J_wid (k' := k + 4) (n' := n + 24) (show k + 1 + 0 + 0 ≤ k + 4 by omega) (show n + 6 + 0 + 0 ≤ n + 24 by omega) ?_
    exact kk z9 M2 f9 g q3

set_option maxRecDepth 100000 in
set_option maxHeartbeats 4000000 in
theorem k_hits {x : JX} {G : gT} {w0 : Cond} {b L : Nat} {xs : Nat → Int32} (hX : LX x G w0 b L xs) {ol od : Nat} {u : Nat → Nat → Nat} {m : Nat → Nat} {z : OS} {M : CT} {f : Nat → Int64} {g : Nat → UInt64} {c k n : Nat} (hp : 6 * c + 6 ≤ L) (h : REL c z M) (hk : k ≤ 600000) (hn : n ≤ 7200000) (kk : LK x G b ol od u m c k n) : J x G (LW G ol od u m z M f g) k n (lvL b u m ol od c) [] 1999 := by
  obtain ⟨hC, hst, hxT, hxN, hX, hbl, hbA, hL⟩ := hX
  have hc : c ≤ 600 := by omega
  refine J_aload_n hC dL_law_1999 1 rfl rfl ?_
  refine J_callVi hC dL_law_2000 wl_L_276 yi_X10_hits (lo_i (c_X10_hits _ G (u 4 0) (oR u) (u 0) (zS z) (zc z) (zp z) h.ci) (pf_o G u z)) rfl rfl 1 10 (lw_o G ol od u m z M f g) rfl ⟨Nat.le_of_ble_eq_true rfl, Nat.le_of_ble_eq_true rfl⟩ (Nat.le_of_ble_eq_true rfl) (show k + 0 ≤ 601024 by omega) (show n + 0 ≤ 7293034 by omega) (fun r1 u1 h1 => ?_)
  refine J_wq (show _ = LW G ol od u m z M f g from rfl) ?_
  refine J_aload_n hC dL_law_2003 2 rfl rfl ?_
  obtain ⟨fs2, hm2⟩ := lw_m G ol od u m z M f g
  refine J_callVi hC dL_law_2004 wl_L_279 yi_X11_hits (lm_i (F := fun _ => (us M 8 2 0)) (c_X11_hits _ G m M )) rfl rfl 275 11 hm2 rfl ⟨Nat.le_of_ble_eq_true rfl, Nat.le_of_ble_eq_true rfl⟩ (Nat.le_of_ble_eq_true rfl) (show k + 0 + 0 ≤ 601024 by omega) (show n + 0 + 0 ≤ 7293034 by omega) (fun r2 u2 h2 => ?_)
  refine J_wq (show _ = LW G ol od u m z (us M 8 2 0) f g from rfl) ?_
  have q1 : r1 = r2 := eq_hits h hc h1 h2
  refine J_ic_eq (tgt := 2975) hC dL_law_2007 (by decide) (fun _ => ?_) (fun c9 => absurd q1 c9)
  refine J_wid (k' := k + 4) (n' := n + 24) (show k + 0 + 0 ≤ k + 4 by omega) (show n + 0 + 0 ≤ n + 24 by omega) ?_
  exact kk z (us M 8 2 0) f g (h.thr 0)

set_option maxRecDepth 100000 in
set_option maxHeartbeats 4000000 in
theorem k_regrets {x : JX} {G : gT} {w0 : Cond} {b L : Nat} {xs : Nat → Int32} (hX : LX x G w0 b L xs) {ol od : Nat} {u : Nat → Nat → Nat} {m : Nat → Nat} {z : OS} {M : CT} {f : Nat → Int64} {g : Nat → UInt64} {c k n : Nat} (hp : 6 * c + 6 ≤ L) (h : REL c z M) (hk : k ≤ 600000) (hn : n ≤ 7200000) (kk : LK x G b ol od u m c k n) : J x G (LW G ol od u m z M f g) k n (lvL b u m ol od c) [] 2012 := by
  obtain ⟨hC, hst, hxT, hxN, hX, hbl, hbA, hL⟩ := hX
  have hc : c ≤ 600 := by omega
  refine J_aload_n hC dL_law_2012 1 rfl rfl ?_
  refine J_callVi hC dL_law_2013 wl_L_280 yi_X10_regrets (lo_i (c_X10_regrets _ G (u 4 0) (oR u) (u 0) (zS z) (zc z) (zp z) h.ci) (pf_o G u z)) rfl rfl 1 10 (lw_o G ol od u m z M f g) rfl ⟨Nat.le_of_ble_eq_true rfl, Nat.le_of_ble_eq_true rfl⟩ (Nat.le_of_ble_eq_true rfl) (show k + 0 ≤ 601024 by omega) (show n + 0 ≤ 7293034 by omega) (fun r1 u1 h1 => ?_)
  refine J_wq (show _ = LW G ol od u m z M f g from rfl) ?_
  refine J_aload_n hC dL_law_2016 2 rfl rfl ?_
  obtain ⟨fs2, hm2⟩ := lw_m G ol od u m z M f g
  refine J_callVi hC dL_law_2017 wl_L_283 yi_X11_regrets (lm_i (F := fun _ => (us M 8 2 0)) (c_X11_regrets _ G m M )) rfl rfl 275 11 hm2 rfl ⟨Nat.le_of_ble_eq_true rfl, Nat.le_of_ble_eq_true rfl⟩ (Nat.le_of_ble_eq_true rfl) (show k + 0 + 0 ≤ 601024 by omega) (show n + 0 + 0 ≤ 7293034 by omega) (fun r2 u2 h2 => ?_)
  refine J_wq (show _ = LW G ol od u m z (us M 8 2 0) f g from rfl) ?_
  have q1 : r1 = r2 := eq_regrets h hc h1 h2
  refine J_ic_eq (tgt := 2975) hC dL_law_2020 (by decide) (fun _ => ?_) (fun c9 => absurd q1 c9)
  refine J_wid (k' := k + 4) (n' := n + 24) (show k + 0 + 0 ≤ k + 4 by omega) (show n + 0 + 0 ≤ n + 24 by omega) ?_
  exact kk z (us M 8 2 0) f g (h.thr 0)

set_option maxRecDepth 100000 in
set_option maxHeartbeats 4000000 in
theorem k_retractions {x : JX} {G : gT} {w0 : Cond} {b L : Nat} {xs : Nat → Int32} (hX : LX x G w0 b L xs) {ol od : Nat} {u : Nat → Nat → Nat} {m : Nat → Nat} {z : OS} {M : CT} {f : Nat → Int64} {g : Nat → UInt64} {c k n : Nat} (hp : 6 * c + 6 ≤ L) (h : REL c z M) (hk : k ≤ 600000) (hn : n ≤ 7200000) (kk : LK x G b ol od u m c k n) : J x G (LW G ol od u m z M f g) k n (lvL b u m ol od c) [] 2025 := by
  obtain ⟨hC, hst, hxT, hxN, hX, hbl, hbA, hL⟩ := hX
  have hc : c ≤ 600 := by omega
  refine J_aload_n hC dL_law_2025 1 rfl rfl ?_
  refine J_callVi hC dL_law_2026 wl_L_284 yi_X10_retractions (lo_i (c_X10_retractions _ G (u 4 0) (oR u) (u 0) (zS z) (zc z) (zp z) h.ci) (pf_o G u z)) rfl rfl 1 10 (lw_o G ol od u m z M f g) rfl ⟨Nat.le_of_ble_eq_true rfl, Nat.le_of_ble_eq_true rfl⟩ (Nat.le_of_ble_eq_true rfl) (show k + 0 ≤ 601024 by omega) (show n + 0 ≤ 7293034 by omega) (fun r1 u1 h1 => ?_)
  refine J_wq (show _ = LW G ol od u m z M f g from rfl) ?_
  refine J_aload_n hC dL_law_2029 2 rfl rfl ?_
  obtain ⟨fs2, hm2⟩ := lw_m G ol od u m z M f g
  refine J_callVi hC dL_law_2030 wl_L_287 yi_X11_retractions (lm_i (F := fun _ => (us M 8 2 0)) (c_X11_retractions _ G m M )) rfl rfl 275 11 hm2 rfl ⟨Nat.le_of_ble_eq_true rfl, Nat.le_of_ble_eq_true rfl⟩ (Nat.le_of_ble_eq_true rfl) (show k + 0 + 0 ≤ 601024 by omega) (show n + 0 + 0 ≤ 7293034 by omega) (fun r2 u2 h2 => ?_)
  refine J_wq (show _ = LW G ol od u m z (us M 8 2 0) f g from rfl) ?_
  have q1 : r1 = r2 := eq_retractions h hc h1 h2
  refine J_ic_eq (tgt := 2975) hC dL_law_2033 (by decide) (fun _ => ?_) (fun c9 => absurd q1 c9)
  refine J_wid (k' := k + 4) (n' := n + 24) (show k + 0 + 0 ≤ k + 4 by omega) (show n + 0 + 0 ≤ n + 24 by omega) ?_
  exact kk z (us M 8 2 0) f g (h.thr 0)

set_option maxRecDepth 100000 in
set_option maxHeartbeats 4000000 in
theorem k_coinsAfter {x : JX} {G : gT} {w0 : Cond} {b L : Nat} {xs : Nat → Int32} (hX : LX x G w0 b L xs) {ol od : Nat} {u : Nat → Nat → Nat} {m : Nat → Nat} {z : OS} {M : CT} {f : Nat → Int64} {g : Nat → UInt64} {c k n : Nat} (hp : 6 * c + 6 ≤ L) (h : REL c z M) (hk : k ≤ 600000) (hn : n ≤ 7200000) (kk : LK x G b ol od u m c k n) : J x G (LW G ol od u m z M f g) k n (lvL b u m ol od c) [] 2038 := by
  obtain ⟨hC, hst, hxT, hxN, hX, hbl, hbA, hL⟩ := hX
  have hc : c ≤ 600 := by omega
  refine J_aload_n hC dL_law_2038 1 rfl rfl ?_
  refine J_aload_n hC dL_law_2039 0 rfl rfl ?_
  refine J_iload hC dL_law_2040 5 rfl ?_
  refine J_iconst (v := nI 1) hC dL_law_2042 rfl ?_
  refine J_iadd (v := nI (6 * c + 1)) hC dL_law_2043 (nI_add _ _) ?_
  refine J_sald (v := xs (6 * c + 1)) hC hX hbl hbA dL_law_2044 (by omega) (by omega) rfl ?_
  refine J_aload_n hC dL_law_2045 3 rfl rfl ?_
  refine J_callW hC hxT hxN dL_law_2046 wl_L_288 yw_coinsAfter (lw_i (u := u) (m := m) (z := z) (z1 := fun (w : Nat) => zDs z (s_days w (zS z))) (z2 := fun (_ : Unit) => z) (w_coinsAfter (jl x) G (ofW G u z) (u 4 0) ol _ (of_0 G u z) (xs (6 * c + 1)) f (b_coinsAfter (jl x) G u z (xs (6 * c + 1)) h.ci hst) (fun _ _ => rfl))) rfl rfl ⟨Nat.le_of_ble_eq_true rfl, Nat.le_of_ble_eq_true rfl⟩ (Nat.le_of_ble_eq_true rfl) (show k + 1 ≤ 601024 by omega) (show n + 6 ≤ 7293034 by omega) (fun r v hv => ?_)
  obtain ⟨z9, hz9⟩ : ∃ q, q = zW (fun (w : Nat) => zDs z (s_days w (zS z))) (fun (_ : Unit) => z) v := ⟨_, rfl⟩
  obtain ⟨f9, hf9⟩ : ∃ q, q = fW f v := ⟨_, rfl⟩
  refine J_wq (show _ = LW G ol od u m z9 M f9 g from by rw [hz9, hf9]) ?_
  refine J_istore hC [(6, .int r), (0, .ref b), (1, .ref (u 4 0)), (2, .ref (m 0)), (3, .ref ol), (4, .ref od), (5, .int (nI (6 * c)))] dL_law_2049 (by decide) rfl ?_
  refine J_aload_n hC dL_law_2051 3 rfl rfl ?_
  refine J_aload_n hC dL_law_2052 1 rfl rfl ?_
  refine J_iload hC dL_law_2053 6 rfl ?_
  refine J_iconst (v := nI 1) hC dL_law_2055 rfl ?_
  refine J_iadd (v := nI (6 * c + 1)) hC dL_law_2056 (nI_add _ _) ?_
  refine J_sald (v := xs (6 * c + 1)) hC hX hbl hbA dL_law_2057 (by omega) (by omega) rfl ?_
  obtain ⟨fs2, hm2⟩ := lw_m G ol od u m z9 M f9 g
  refine J_callVi hC dL_law_2058 wl_L_290 yi_X11_coinsAfter (lm_i (c_X11_coinsAfter _ G m M (m_bc (M 0)) (m_vc (M 0)) (m_fc (M 0)) (m_mc (M 0)) (xs (6 * c + 1)) h.bc.1 h.bc.2 h.vc.1 h.vc.2 h.fc.1 h.fc.2 h.mc.1 h.mc.2 h.gi)) rfl rfl 275 11 hm2 rfl ⟨Nat.le_of_ble_eq_true rfl, Nat.le_of_ble_eq_true rfl⟩ (Nat.le_of_ble_eq_true rfl) (show k + 1 + 0 ≤ 601024 by omega) (show n + 6 + 0 ≤ 7293034 by omega) (fun r2 M2 h2 => ?_)
  obtain ⟨q1, q2, q3⟩ := eq_coinsAfter h hc (f := f) (xs (6 * c + 1)) hv h2
  rw [← hz9] at q3
  rw [← hf9] at q2
  refine J_istore hC [(7, .int r2), (6, .int r), (0, .ref b), (1, .ref (u 4 0)), (2, .ref (m 0)), (3, .ref ol), (4, .ref od), (5, .int (nI (6 * c)))] dL_law_2061 (by decide) rfl ?_
  refine J_aload_n hC dL_law_2063 4 rfl rfl ?_
  obtain ⟨fs3, hm3⟩ := lw_m G ol od u m z9 M2 f9 g
  refine J_callVi hC dL_law_2064 wl_L_149 yi_X11_thrown (lm_i (c_X11_thrown _ G m M2)) rfl rfl 275 11 hm3 rfl ⟨Nat.le_of_ble_eq_true rfl, Nat.le_of_ble_eq_true rfl⟩ (Nat.le_of_ble_eq_true rfl) (show k + 1 + 0 + 0 ≤ 601024 by omega) (show n + 6 + 0 + 0 ≤ 7293034 by omega) (fun r3 u3 h3 => ?_)
  refine J_wq (show _ = LW G ol od u m z9 M2 f9 g from rfl) ?_
  subst h3
  refine J_iload hC dL_law_2067 1 rfl ?_
  refine J_ic_eq (tgt := 2074) hC dL_law_2069 (by decide) (fun _ => ?_) (fun c9 => absurd q1 c9)
  refine J_iload hC dL_law_2074 1 rfl ?_
  refine J_if_ne (tgt := 2091) hC dL_law_2076 (by decide) (fun c9 => ?_) (fun c9 => ?_)
  · refine J_goto (tgt := 2975) hC dL_law_2091 (by decide) ?_
    refine J_lv (lv' := lvL b u m ol od c) [2, 3, 4, 5, 6, 7] rfl ?_
    refine J_wid (k' := k + 4) (n' := n + 24) (show k + 1 + 0 + 0 ≤ k + 4 by omega) (show n + 6 + 0 + 0 ≤ n + 24 by omega) ?_
    exact kk z9 M2 f9 g q3
  · refine J_aload_n hC dL_law_2079 5 rfl rfl ?_
    refine J_iconst (v := nI 0) hC dL_law_2080 rfl ?_
    refine J_lald (i := 0) (v := f9 0) hC dL_law_2081 0 rfl (by decide) (by decide) rfl ?_
    refine J_iload hC dL_law_2082 0 rfl ?_
    refine J_i2l (v := r2.toInt64) hC dL_law_2084 rfl ?_
    refine J_lcmp hC dL_law_2085 ?_
    refine J_topi (show lg_cmp (f9 0) r2.toInt64 = 0 from by rw [q2 c9]; exact lg_cmp_self _) ?_
    refine J_if_eq (tgt := 2091) hC dL_law_2086 (by decide) (fun _ => ?_) (fun c8 => absurd rfl c8)
    refine J_goto (tgt := 2975) hC dL_law_2091 (by decide) ?_
    refine J_lv (lv' := lvL b u m ol od c) [2, 3, 4, 5, 6, 7] rfl ?_
    refine J_wid (k' := k + 4) (n' := n + 24) (show k + 1 + 0 + 0 ≤ k + 4 by omega) (show n + 6 + 0 + 0 ≤ n + 24 by omega) ?_
    exact kk z9 M2 f9 g q3

set_option maxRecDepth 100000 in
set_option maxHeartbeats 4000000 in
theorem k_daysUntilEmpty {x : JX} {G : gT} {w0 : Cond} {b L : Nat} {xs : Nat → Int32} (hX : LX x G w0 b L xs) {ol od : Nat} {u : Nat → Nat → Nat} {m : Nat → Nat} {z : OS} {M : CT} {f : Nat → Int64} {g : Nat → UInt64} {c k n : Nat} (hp : 6 * c + 6 ≤ L) (h : REL c z M) (hk : k ≤ 600000) (hn : n ≤ 7200000) (kk : LK x G b ol od u m c k n) : J x G (LW G ol od u m z M f g) k n (lvL b u m ol od c) [] 2162 := by
  obtain ⟨hC, hst, hxT, hxN, hX, hbl, hbA, hL⟩ := hX
  have hc : c ≤ 600 := by omega
  refine J_aload_n hC dL_law_2162 1 rfl rfl ?_
  obtain ⟨N9, hN1, hN2, hN3, hN4⟩ := eq_daysUntilEmpty h hc
  refine J_callVi hC dL_law_2163 wl_L_294 yi_X10_daysUntilEmpty (lo_i (c_X10_daysUntilEmpty _ G (u 4 0) (oR u) (u 0) (zS z) (zc z) (zp z) h.ci) (pf_o G u z)) rfl rfl 1 10 (lw_o G ol od u m z M f g) rfl ⟨Nat.le_of_ble_eq_true rfl, Nat.le_of_ble_eq_true rfl⟩ (Nat.le_of_ble_eq_true rfl) (show k + 0 ≤ 601024 by omega) (show n + 0 ≤ 7293034 by omega) (fun r1 u1 h1 => ?_)
  refine J_wq (show _ = LW G ol od u m z M f g from rfl) ?_
  refine J_aload_n hC dL_law_2166 2 rfl rfl ?_
  obtain ⟨fs2, hm2⟩ := lw_m G ol od u m z M f g
  refine J_callVi hC dL_law_2167 wl_L_297 yi_X11_daysUntilEmpty (lm_i (F := fun _ => (ur (us M 8 2 0) 2 (m_days N9 (M 0)))) (c_X11_daysUntilEmpty _ G m M (m_bc (M 0)) (m_vc (M 0)) (m_fc (M 0)) (m_mc (M 0)) N9 h.gi hN1 hN2 hN3)) rfl rfl 275 11 hm2 rfl ⟨Nat.le_of_ble_eq_true rfl, Nat.le_of_ble_eq_true rfl⟩ (Nat.le_of_ble_eq_true rfl) (show k + 0 + 0 ≤ 601024 by omega) (show n + 0 + 0 ≤ 7293034 by omega) (fun r2 u2 h2 => ?_)
  refine J_wq (show _ = LW G ol od u m z (ur (us M 8 2 0) 2 (m_days N9 (M 0))) f g from rfl) ?_
  have q1 : r1 = r2 := (hN4 r1 h1).trans h2.symm
  refine J_ic_eq (tgt := 2975) hC dL_law_2170 (by decide) (fun _ => ?_) (fun c9 => absurd q1 c9)
  refine J_wid (k' := k + 4) (n' := n + 24) (show k + 0 + 0 ≤ k + 4 by omega) (show n + 0 + 0 ≤ n + 24 by omega) ?_
  exact kk z (ur (us M 8 2 0) 2 (m_days N9 (M 0))) f g (h.next rfl rfl rfl rfl rfl rfl (us82 M 0))

set_option maxRecDepth 100000 in
set_option maxHeartbeats 4000000 in
theorem k_bestSeller {x : JX} {G : gT} {w0 : Cond} {b L : Nat} {xs : Nat → Int32} (hX : LX x G w0 b L xs) {ol od : Nat} {u : Nat → Nat → Nat} {m : Nat → Nat} {z : OS} {M : CT} {f : Nat → Int64} {g : Nat → UInt64} {c k n : Nat} (hp : 6 * c + 6 ≤ L) (h : REL c z M) (hk : k ≤ 600000) (hn : n ≤ 7200000) (kk : LK x G b ol od u m c k n) : J x G (LW G ol od u m z M f g) k n (lvL b u m ol od c) [] 2175 := by
  obtain ⟨hC, hst, hxT, hxN, hX, hbl, hbA, hL⟩ := hX
  have hc : c ≤ 600 := by omega
  refine J_aload_n hC dL_law_2175 1 rfl rfl ?_
  refine J_callVi hC dL_law_2176 wl_L_298 yi_X10_bestSeller (lo_i (c_X10_bestSeller _ G (u 4 0) (oR u) (u 0) (zS z) (zc z) (zp z) h.ci) (pf_o G u z)) rfl rfl 1 10 (lw_o G ol od u m z M f g) rfl ⟨Nat.le_of_ble_eq_true rfl, Nat.le_of_ble_eq_true rfl⟩ (Nat.le_of_ble_eq_true rfl) (show k + 0 ≤ 601024 by omega) (show n + 0 ≤ 7293034 by omega) (fun r1 u1 h1 => ?_)
  refine J_wq (show _ = LW G ol od u m z M f g from rfl) ?_
  refine J_aload_n hC dL_law_2179 2 rfl rfl ?_
  obtain ⟨fs2, hm2⟩ := lw_m G ol od u m z M f g
  refine J_callVi hC dL_law_2180 wl_L_301 yi_X11_bestSeller (lm_i (F := fun _ => (us M 8 2 0)) (c_X11_bestSeller _ G m M (m_bc (M 0)) h.bc.1 h.bc.2)) rfl rfl 275 11 hm2 rfl ⟨Nat.le_of_ble_eq_true rfl, Nat.le_of_ble_eq_true rfl⟩ (Nat.le_of_ble_eq_true rfl) (show k + 0 + 0 ≤ 601024 by omega) (show n + 0 + 0 ≤ 7293034 by omega) (fun r2 u2 h2 => ?_)
  refine J_wq (show _ = LW G ol od u m z (us M 8 2 0) f g from rfl) ?_
  have q1 : r1 = r2 := eq_bestSeller h hc h1 h2
  refine J_ic_eq (tgt := 2975) hC dL_law_2183 (by decide) (fun _ => ?_) (fun c9 => absurd q1 c9)
  refine J_wid (k' := k + 4) (n' := n + 24) (show k + 0 + 0 ≤ k + 4 by omega) (show n + 0 + 0 ≤ n + 24 by omega) ?_
  exact kk z (us M 8 2 0) f g (h.thr 0)

set_option maxRecDepth 100000 in
set_option maxHeartbeats 4000000 in
theorem k_copyDifference {x : JX} {G : gT} {w0 : Cond} {b L : Nat} {xs : Nat → Int32} (hX : LX x G w0 b L xs) {ol od : Nat} {u : Nat → Nat → Nat} {m : Nat → Nat} {z : OS} {M : CT} {f : Nat → Int64} {g : Nat → UInt64} {c k n : Nat} (hp : 6 * c + 6 ≤ L) (h : REL c z M) (hk : k ≤ 600000) (hn : n ≤ 7200000) (kk : LK x G b ol od u m c k n) : J x G (LW G ol od u m z M f g) k n (lvL b u m ol od c) [] 2188 := by
  obtain ⟨hC, hst, hxT, hxN, hX, hbl, hbA, hL⟩ := hX
  have hc : c ≤ 600 := by omega
  refine J_aload_n hC dL_law_2188 1 rfl rfl ?_
  refine J_callVi hC dL_law_2189 wl_L_302 yi_X10_copyDifference (lo_i (c_X10_copyDifference _ G (u 4 0) (oR u) (u 0) (zS z) (zc z) (zp z) h.ci) (pf_o G u z)) rfl rfl 1 10 (lw_o G ol od u m z M f g) rfl ⟨Nat.le_of_ble_eq_true rfl, Nat.le_of_ble_eq_true rfl⟩ (Nat.le_of_ble_eq_true rfl) (show k + 0 ≤ 601024 by omega) (show n + 0 ≤ 7293034 by omega) (fun r1 u1 h1 => ?_)
  refine J_wq (show _ = LW G ol od u m z M f g from rfl) ?_
  refine J_aload_n hC dL_law_2192 2 rfl rfl ?_
  obtain ⟨fs2, hm2⟩ := lw_m G ol od u m z M f g
  refine J_callVi hC dL_law_2193 wl_L_305 yi_X11_copyDifference (lm_i (F := fun _ => (us M 8 2 0)) (c_X11_copyDifference _ G m M (m_bc (M 0)) h.bc.1 h.bc.2)) rfl rfl 275 11 hm2 rfl ⟨Nat.le_of_ble_eq_true rfl, Nat.le_of_ble_eq_true rfl⟩ (Nat.le_of_ble_eq_true rfl) (show k + 0 + 0 ≤ 601024 by omega) (show n + 0 + 0 ≤ 7293034 by omega) (fun r2 u2 h2 => ?_)
  refine J_wq (show _ = LW G ol od u m z (us M 8 2 0) f g from rfl) ?_
  have q1 : r1 = r2 := eq_copyDifference h hc h1 h2
  refine J_ic_eq (tgt := 2975) hC dL_law_2196 (by decide) (fun _ => ?_) (fun c9 => absurd q1 c9)
  refine J_wid (k' := k + 4) (n' := n + 24) (show k + 0 + 0 ≤ k + 4 by omega) (show n + 0 + 0 ≤ n + 24 by omega) ?_
  exact kk z (us M 8 2 0) f g (h.thr 0)

set_option maxRecDepth 100000 in
set_option maxHeartbeats 4000000 in
theorem k_coinDifference {x : JX} {G : gT} {w0 : Cond} {b L : Nat} {xs : Nat → Int32} (hX : LX x G w0 b L xs) {ol od : Nat} {u : Nat → Nat → Nat} {m : Nat → Nat} {z : OS} {M : CT} {f : Nat → Int64} {g : Nat → UInt64} {c k n : Nat} (hp : 6 * c + 6 ≤ L) (h : REL c z M) (hk : k ≤ 600000) (hn : n ≤ 7200000) (kk : LK x G b ol od u m c k n) : J x G (LW G ol od u m z M f g) k n (lvL b u m ol od c) [] 2201 := by
  obtain ⟨hC, hst, hxT, hxN, hX, hbl, hbA, hL⟩ := hX
  have hc : c ≤ 600 := by omega
  refine J_aload_n hC dL_law_2201 1 rfl rfl ?_
  refine J_callVi hC dL_law_2202 wl_L_306 yi_X10_coinDifference (lo_i (c_X10_coinDifference _ G (u 4 0) (oR u) (u 0) (zS z) (zc z) (zp z) h.ci) (pf_o G u z)) rfl rfl 1 10 (lw_o G ol od u m z M f g) rfl ⟨Nat.le_of_ble_eq_true rfl, Nat.le_of_ble_eq_true rfl⟩ (Nat.le_of_ble_eq_true rfl) (show k + 0 ≤ 601024 by omega) (show n + 0 ≤ 7293034 by omega) (fun r1 u1 h1 => ?_)
  refine J_wq (show _ = LW G ol od u m z M f g from rfl) ?_
  refine J_aload_n hC dL_law_2205 2 rfl rfl ?_
  obtain ⟨fs2, hm2⟩ := lw_m G ol od u m z M f g
  refine J_callVi hC dL_law_2206 wl_L_309 yi_X11_coinDifference (lm_i (F := fun _ => (us M 8 2 0)) (c_X11_coinDifference _ G m M )) rfl rfl 275 11 hm2 rfl ⟨Nat.le_of_ble_eq_true rfl, Nat.le_of_ble_eq_true rfl⟩ (Nat.le_of_ble_eq_true rfl) (show k + 0 + 0 ≤ 601024 by omega) (show n + 0 + 0 ≤ 7293034 by omega) (fun r2 u2 h2 => ?_)
  refine J_wq (show _ = LW G ol od u m z (us M 8 2 0) f g from rfl) ?_
  have q1 : r1 = r2 := eq_coinDifference h hc h1 h2
  refine J_ic_eq (tgt := 2975) hC dL_law_2209 (by decide) (fun _ => ?_) (fun c9 => absurd q1 c9)
  refine J_wid (k' := k + 4) (n' := n + 24) (show k + 0 + 0 ≤ k + 4 by omega) (show n + 0 + 0 ≤ n + 24 by omega) ?_
  exact kk z (us M 8 2 0) f g (h.thr 0)

set_option maxRecDepth 100000 in
set_option maxHeartbeats 4000000 in
theorem k_bookErrors {x : JX} {G : gT} {w0 : Cond} {b L : Nat} {xs : Nat → Int32} (hX : LX x G w0 b L xs) {ol od : Nat} {u : Nat → Nat → Nat} {m : Nat → Nat} {z : OS} {M : CT} {f : Nat → Int64} {g : Nat → UInt64} {c k n : Nat} (hp : 6 * c + 6 ≤ L) (h : REL c z M) (hk : k ≤ 600000) (hn : n ≤ 7200000) (kk : LK x G b ol od u m c k n) : J x G (LW G ol od u m z M f g) k n (lvL b u m ol od c) [] 2214 := by
  obtain ⟨hC, hst, hxT, hxN, hX, hbl, hbA, hL⟩ := hX
  have hc : c ≤ 600 := by omega
  refine J_aload_n hC dL_law_2214 1 rfl rfl ?_
  refine J_callVi hC dL_law_2215 wl_L_310 yi_X10_bookErrors (lo_i (c_X10_bookErrors _ G (u 4 0) (oR u) (u 0) (zS z) (zc z) (zp z) h.ci) (pf_o G u z)) rfl rfl 1 10 (lw_o G ol od u m z M f g) rfl ⟨Nat.le_of_ble_eq_true rfl, Nat.le_of_ble_eq_true rfl⟩ (Nat.le_of_ble_eq_true rfl) (show k + 0 ≤ 601024 by omega) (show n + 0 ≤ 7293034 by omega) (fun r1 u1 h1 => ?_)
  refine J_wq (show _ = LW G ol od u m z M f g from rfl) ?_
  refine J_aload_n hC dL_law_2218 2 rfl rfl ?_
  obtain ⟨fs2, hm2⟩ := lw_m G ol od u m z M f g
  refine J_callVi hC dL_law_2219 wl_L_313 yi_X11_bookErrors (lm_i (F := fun _ => (us M 8 2 0)) (c_X11_bookErrors _ G m M (m_bc (M 0)) h.bc.1 h.bc.2)) rfl rfl 275 11 hm2 rfl ⟨Nat.le_of_ble_eq_true rfl, Nat.le_of_ble_eq_true rfl⟩ (Nat.le_of_ble_eq_true rfl) (show k + 0 + 0 ≤ 601024 by omega) (show n + 0 + 0 ≤ 7293034 by omega) (fun r2 u2 h2 => ?_)
  refine J_wq (show _ = LW G ol od u m z (us M 8 2 0) f g from rfl) ?_
  have q1 : r1 = r2 := eq_bookErrors h hc h1 h2
  refine J_ic_eq (tgt := 2975) hC dL_law_2222 (by decide) (fun _ => ?_) (fun c9 => absurd q1 c9)
  refine J_wid (k' := k + 4) (n' := n + 24) (show k + 0 + 0 ≤ k + 4 by omega) (show n + 0 + 0 ≤ n + 24 by omega) ?_
  exact kk z (us M 8 2 0) f g (h.thr 0)

set_option maxRecDepth 100000 in
set_option maxHeartbeats 4000000 in
theorem k_hitShare {x : JX} {G : gT} {w0 : Cond} {b L : Nat} {xs : Nat → Int32} (hX : LX x G w0 b L xs) {ol od : Nat} {u : Nat → Nat → Nat} {m : Nat → Nat} {z : OS} {M : CT} {f : Nat → Int64} {g : Nat → UInt64} {c k n : Nat} (hp : 6 * c + 6 ≤ L) (h : REL c z M) (hk : k ≤ 600000) (hn : n ≤ 7200000) (kk : LK x G b ol od u m c k n) : J x G (LW G ol od u m z M f g) k n (lvL b u m ol od c) [] 2227 := by
  obtain ⟨hC, hst, hxT, hxN, hX, hbl, hbA, hL⟩ := hX
  have hc : c ≤ 600 := by omega
  refine J_aload_n hC dL_law_2227 1 rfl rfl ?_
  refine J_callVf hC dL_law_2228 wl_L_314 yi_X10_hitShare (lo_f (c_X10_hitShare _ G (u 4 0) (oR u) (u 0) (zS z) (zc z) (zp z)) (pf_o G u z)) rfl rfl 1 10 (lw_o G ol od u m z M f g) rfl ⟨Nat.le_of_ble_eq_true rfl, Nat.le_of_ble_eq_true rfl⟩ (Nat.le_of_ble_eq_true rfl) (show k + 0 ≤ 601024 by omega) (show n + 0 ≤ 7293034 by omega) (fun r1 u1 h1 => ?_)
  refine J_wq (show _ = LW G ol od u m z M f g from rfl) ?_
  have e1 := h1
  refine J_f2d hC dL_law_2231 (by rw [h1]; exact ff_n64 _ _) ?_
  refine J_dstore hC [(6, .double (FP.f2d r1)), (0, .ref b), (1, .ref (u 4 0)), (2, .ref (m 0)), (3, .ref ol), (4, .ref od), (5, .int (nI (6 * c)))] dL_law_2232 (by decide) rfl ?_
  refine J_aload_n hC dL_law_2234 3 rfl rfl ?_
  obtain ⟨fs2, hm2⟩ := lw_m G ol od u m z M f g
  refine J_callVf hC dL_law_2235 wl_L_318 yi_X11_hitShare (lm_f (F := fun _ => (us M 8 2 0)) (c_X11_hitShare _ G m M )) rfl rfl 275 11 hm2 rfl ⟨Nat.le_of_ble_eq_true rfl, Nat.le_of_ble_eq_true rfl⟩ (Nat.le_of_ble_eq_true rfl) (show k + 0 + 0 ≤ 601024 by omega) (show n + 0 + 0 ≤ 7293034 by omega) (fun r2 u2 h2 => ?_)
  refine J_wq (show _ = LW G ol od u m z (us M 8 2 0) f g from rfl) ?_
  have q1 : r1 = r2 := eq_hitShare h hc h1 h2
  subst q1
  refine J_f2d hC dL_law_2238 (by rw [h1]; exact ff_n64 _ _) ?_
  refine J_dstore hC [(8, .double (FP.f2d r1)), (6, .double (FP.f2d r1)), (0, .ref b), (1, .ref (u 4 0)), (2, .ref (m 0)), (3, .ref ol), (4, .ref od), (5, .int (nI (6 * c)))] dL_law_2239 (by decide) rfl ?_
  refine J_dload hC dL_law_2241 1 rfl ?_
  refine J_dload hC dL_law_2243 0 rfl ?_
  refine J_dcmp hC dL_law_2245 ?_
  refine J_if_eq (tgt := 2267) hC dL_law_2246 (by decide) (fun c8 => ?_) (fun c8 => ?_)
  · refine J_goto (tgt := 2975) hC dL_law_2267 (by decide) ?_
    refine J_lv (lv' := lvL b u m ol od c) [2, 3, 4, 5, 6, 7] rfl ?_
    refine J_wid (k' := k + 4) (n' := n + 24) (show k + 0 + 0 ≤ k + 4 by omega) (show n + 0 + 0 ≤ n + 24 by omega) ?_
    exact kk z (us M 8 2 0) f g (h.thr 0)
  · refine J_dload hC dL_law_2249 1 rfl ?_
    refine J_dload hC dL_law_2251 1 rfl ?_
    refine J_dcmp hC dL_law_2253 ?_
    refine J_if_eq (tgt := 2265) hC dL_law_2254 (by decide) (fun c7 => absurd c7 c8) (fun _ => ?_)
    refine J_dload hC dL_law_2257 0 rfl ?_
    refine J_dload hC dL_law_2259 0 rfl ?_
    refine J_dcmp hC dL_law_2261 ?_
    refine J_if_ne (tgt := 2267) hC dL_law_2262 (by decide) (fun _ => ?_) (fun c7 => absurd c7 c8)
    refine J_goto (tgt := 2975) hC dL_law_2267 (by decide) ?_
    refine J_lv (lv' := lvL b u m ol od c) [2, 3, 4, 5, 6, 7] rfl ?_
    refine J_wid (k' := k + 4) (n' := n + 24) (show k + 0 + 0 ≤ k + 4 by omega) (show n + 0 + 0 ≤ n + 24 by omega) ?_
    exact kk z (us M 8 2 0) f g (h.thr 0)

set_option maxRecDepth 100000 in
set_option maxHeartbeats 4000000 in
theorem k_averageTrust {x : JX} {G : gT} {w0 : Cond} {b L : Nat} {xs : Nat → Int32} (hX : LX x G w0 b L xs) {ol od : Nat} {u : Nat → Nat → Nat} {m : Nat → Nat} {z : OS} {M : CT} {f : Nat → Int64} {g : Nat → UInt64} {c k n : Nat} (hp : 6 * c + 6 ≤ L) (h : REL c z M) (hk : k ≤ 600000) (hn : n ≤ 7200000) (kk : LK x G b ol od u m c k n) : J x G (LW G ol od u m z M f g) k n (lvL b u m ol od c) [] 2270 := by
  obtain ⟨hC, hst, hxT, hxN, hX, hbl, hbA, hL⟩ := hX
  have hc : c ≤ 600 := by omega
  refine J_aload_n hC dL_law_2270 1 rfl rfl ?_
  refine J_callVd hC dL_law_2271 wl_L_319 yi_X10_averageTrust (lo_d (c_X10_averageTrust _ G (u 4 0) (oR u) (u 0) (zS z) (zc z) (zp z) h.ci) (pf_o G u z)) rfl rfl 1 10 (lw_o G ol od u m z M f g) rfl ⟨Nat.le_of_ble_eq_true rfl, Nat.le_of_ble_eq_true rfl⟩ (Nat.le_of_ble_eq_true rfl) (show k + 0 ≤ 601024 by omega) (show n + 0 ≤ 7293034 by omega) (fun r1 u1 h1 => ?_)
  refine J_wq (show _ = LW G ol od u m z M f g from rfl) ?_
  refine J_dstore hC [(6, .double r1), (0, .ref b), (1, .ref (u 4 0)), (2, .ref (m 0)), (3, .ref ol), (4, .ref od), (5, .int (nI (6 * c)))] dL_law_2274 (by decide) rfl ?_
  refine J_aload_n hC dL_law_2276 3 rfl rfl ?_
  obtain ⟨fs2, hm2⟩ := lw_m G ol od u m z M f g
  refine J_callVd hC dL_law_2277 wl_L_323 yi_X11_averageTrust (lm_d (F := fun _ => (us M 8 2 0)) (c_X11_averageTrust _ G m M (m_vc (M 0)) h.vc.1 h.vc.2)) rfl rfl 275 11 hm2 rfl ⟨Nat.le_of_ble_eq_true rfl, Nat.le_of_ble_eq_true rfl⟩ (Nat.le_of_ble_eq_true rfl) (show k + 0 + 0 ≤ 601024 by omega) (show n + 0 + 0 ≤ 7293034 by omega) (fun r2 u2 h2 => ?_)
  refine J_wq (show _ = LW G ol od u m z (us M 8 2 0) f g from rfl) ?_
  have q1 : r1 = r2 := eq_averageTrust h hc h1 h2
  subst q1
  refine J_dstore hC [(8, .double r1), (6, .double r1), (0, .ref b), (1, .ref (u 4 0)), (2, .ref (m 0)), (3, .ref ol), (4, .ref od), (5, .int (nI (6 * c)))] dL_law_2280 (by decide) rfl ?_
  refine J_dload hC dL_law_2282 1 rfl ?_
  refine J_dload hC dL_law_2284 0 rfl ?_
  refine J_dcmp hC dL_law_2286 ?_
  refine J_if_eq (tgt := 2308) hC dL_law_2287 (by decide) (fun c8 => ?_) (fun c8 => ?_)
  · refine J_goto (tgt := 2975) hC dL_law_2308 (by decide) ?_
    refine J_lv (lv' := lvL b u m ol od c) [2, 3, 4, 5, 6, 7] rfl ?_
    refine J_wid (k' := k + 4) (n' := n + 24) (show k + 0 + 0 ≤ k + 4 by omega) (show n + 0 + 0 ≤ n + 24 by omega) ?_
    exact kk z (us M 8 2 0) f g (h.thr 0)
  · refine J_dload hC dL_law_2290 1 rfl ?_
    refine J_dload hC dL_law_2292 1 rfl ?_
    refine J_dcmp hC dL_law_2294 ?_
    refine J_if_eq (tgt := 2306) hC dL_law_2295 (by decide) (fun c7 => absurd c7 c8) (fun _ => ?_)
    refine J_dload hC dL_law_2298 0 rfl ?_
    refine J_dload hC dL_law_2300 0 rfl ?_
    refine J_dcmp hC dL_law_2302 ?_
    refine J_if_ne (tgt := 2308) hC dL_law_2303 (by decide) (fun _ => ?_) (fun c7 => absurd c7 c8)
    refine J_goto (tgt := 2975) hC dL_law_2308 (by decide) ?_
    refine J_lv (lv' := lvL b u m ol od c) [2, 3, 4, 5, 6, 7] rfl ?_
    refine J_wid (k' := k + 4) (n' := n + 24) (show k + 0 + 0 ≤ k + 4 by omega) (show n + 0 + 0 ≤ n + 24 by omega) ?_
    exact kk z (us M 8 2 0) f g (h.thr 0)

set_option maxRecDepth 100000 in
set_option maxHeartbeats 4000000 in
theorem k_print {x : JX} {G : gT} {w0 : Cond} {b L : Nat} {xs : Nat → Int32} (hX : LX x G w0 b L xs) {ol od : Nat} {u : Nat → Nat → Nat} {m : Nat → Nat} {z : OS} {M : CT} {f : Nat → Int64} {g : Nat → UInt64} {c k n : Nat} (hp : 6 * c + 6 ≤ L) (h : REL c z M) (hk : k ≤ 600000) (hn : n ≤ 7200000) (kk : LK x G b ol od u m c k n) : J x G (LW G ol od u m z M f g) k n (lvL b u m ol od c) [] 2311 := by
  obtain ⟨hC, hst, hxT, hxN, hX, hbl, hbA, hL⟩ := hX
  have hc : c ≤ 600 := by omega
  refine J_aload_n hC dL_law_2311 1 rfl rfl ?_
  refine J_aload_n hC dL_law_2312 0 rfl rfl ?_
  refine J_iload hC dL_law_2313 5 rfl ?_
  refine J_iconst (v := nI 1) hC dL_law_2315 rfl ?_
  refine J_iadd (v := nI (6 * c + 1)) hC dL_law_2316 (nI_add _ _) ?_
  refine J_sald (v := xs (6 * c + 1)) hC hX hbl hbA dL_law_2317 (by omega) (by omega) rfl ?_
  refine J_aload_n hC dL_law_2318 0 rfl rfl ?_
  refine J_iload hC dL_law_2319 5 rfl ?_
  refine J_iconst (v := nI 2) hC dL_law_2321 rfl ?_
  refine J_iadd (v := nI (6 * c + 2)) hC dL_law_2322 (nI_add _ _) ?_
  refine J_sald (v := xs (6 * c + 2)) hC hX hbl hbA dL_law_2323 (by omega) (by omega) rfl ?_
  refine J_aload_n hC dL_law_2324 0 rfl rfl ?_
  refine J_iload hC dL_law_2325 5 rfl ?_
  refine J_iconst (v := nI 3) hC dL_law_2327 rfl ?_
  refine J_iadd (v := nI (6 * c + 3)) hC dL_law_2328 (nI_add _ _) ?_
  refine J_sald (v := xs (6 * c + 3)) hC hX hbl hbA dL_law_2329 (by omega) (by omega) rfl ?_
  refine J_aload_n hC dL_law_2330 3 rfl rfl ?_
  refine J_callW hC hxT hxN dL_law_2331 wl_L_324 yw_print (lw_i (u := u) (m := m) (z := z) (z1 := fun (w : Unit) => zR z (s_bookAdd (zS z) (xs (6 * c + 1)) (xs (6 * c + 2)) (xs (6 * c + 3)) (bcO (zS z)))) (z2 := fun (_ : Nat) => z) (w_print (jl x) G (ofW G u z) (u 4 0) ol _ (of_0 G u z) (xs (6 * c + 1)) (xs (6 * c + 2)) (xs (6 * c + 3)) f (b_print (jl x) G u z (xs (6 * c + 1)) (xs (6 * c + 2)) (xs (6 * c + 3)) h.hn h.hk h.ci hst) (fun u9 hp9 => by
    rcases hp9 with ⟨e8, _⟩ | ⟨e8, _⟩ | ⟨e8, _⟩
    · exact Or.inl (if_pos e8)
    · exact Or.inr (Or.inl (by rw [if_neg (by rw [e8]; decide), if_pos e8]))
    · exact Or.inr (Or.inr (by rw [if_neg (by rw [e8]; decide), if_neg (by rw [e8]; decide)]))))) rfl rfl ⟨Nat.le_of_ble_eq_true rfl, Nat.le_of_ble_eq_true rfl⟩ (Nat.le_of_ble_eq_true rfl) (show k + 3 ≤ 601024 by omega) (show n + 18 ≤ 7293034 by omega) (fun r v hv => ?_)
  obtain ⟨z9, hz9⟩ : ∃ q, q = zW (fun (w : Unit) => zR z (s_bookAdd (zS z) (xs (6 * c + 1)) (xs (6 * c + 2)) (xs (6 * c + 3)) (bcO (zS z)))) (fun (_ : Nat) => z) v := ⟨_, rfl⟩
  obtain ⟨f9, hf9⟩ : ∃ q, q = fW f v := ⟨_, rfl⟩
  refine J_wq (show _ = LW G ol od u m z9 M f9 g from by rw [hz9, hf9]) ?_
  refine J_istore hC [(6, .int r), (0, .ref b), (1, .ref (u 4 0)), (2, .ref (m 0)), (3, .ref ol), (4, .ref od), (5, .int (nI (6 * c)))] dL_law_2334 (by decide) rfl ?_
  refine J_aload_n hC dL_law_2336 3 rfl rfl ?_
  refine J_aload_n hC dL_law_2337 1 rfl rfl ?_
  refine J_iload hC dL_law_2338 6 rfl ?_
  refine J_iconst (v := nI 1) hC dL_law_2340 rfl ?_
  refine J_iadd (v := nI (6 * c + 1)) hC dL_law_2341 (nI_add _ _) ?_
  refine J_sald (v := xs (6 * c + 1)) hC hX hbl hbA dL_law_2342 (by omega) (by omega) rfl ?_
  refine J_aload_n hC dL_law_2343 1 rfl rfl ?_
  refine J_iload hC dL_law_2344 6 rfl ?_
  refine J_iconst (v := nI 2) hC dL_law_2346 rfl ?_
  refine J_iadd (v := nI (6 * c + 2)) hC dL_law_2347 (nI_add _ _) ?_
  refine J_sald (v := xs (6 * c + 2)) hC hX hbl hbA dL_law_2348 (by omega) (by omega) rfl ?_
  refine J_aload_n hC dL_law_2349 1 rfl rfl ?_
  refine J_iload hC dL_law_2350 6 rfl ?_
  refine J_iconst (v := nI 3) hC dL_law_2352 rfl ?_
  refine J_iadd (v := nI (6 * c + 3)) hC dL_law_2353 (nI_add _ _) ?_
  refine J_sald (v := xs (6 * c + 3)) hC hX hbl hbA dL_law_2354 (by omega) (by omega) rfl ?_
  obtain ⟨fs2, hm2⟩ := lw_m G ol od u m z9 M f9 g
  refine J_callVi hC dL_law_2355 wl_L_327 yi_X11_print (lm_i (c_X11_print _ G m M (m_vc (M 0)) (m_bc (M 0)) (cl (M 8 0)) (cl (M 8 1)) (xs (6 * c + 1)) (xs (6 * c + 2)) (xs (6 * c + 3)) h.vc.1 h.vc.2 h.bc.1 h.bc.2 h.un.1 h.un.2 h.u0.1 h.u0.2)) rfl rfl 275 11 hm2 rfl ⟨Nat.le_of_ble_eq_true rfl, Nat.le_of_ble_eq_true rfl⟩ (Nat.le_of_ble_eq_true rfl) (show k + 3 + 0 ≤ 601024 by omega) (show n + 18 + 0 ≤ 7293034 by omega) (fun r2 M2 h2 => ?_)
  obtain ⟨q1, q2, q3⟩ := eq_print h hc (f := f) (xs (6 * c + 1)) (xs (6 * c + 2)) (xs (6 * c + 3)) hv h2
  rw [← hz9] at q3
  rw [← hf9] at q2
  refine J_istore hC [(7, .int r2), (6, .int r), (0, .ref b), (1, .ref (u 4 0)), (2, .ref (m 0)), (3, .ref ol), (4, .ref od), (5, .int (nI (6 * c)))] dL_law_2358 (by decide) rfl ?_
  refine J_aload_n hC dL_law_2360 4 rfl rfl ?_
  obtain ⟨fs3, hm3⟩ := lw_m G ol od u m z9 M2 f9 g
  refine J_callVi hC dL_law_2361 wl_L_149 yi_X11_thrown (lm_i (c_X11_thrown _ G m M2)) rfl rfl 275 11 hm3 rfl ⟨Nat.le_of_ble_eq_true rfl, Nat.le_of_ble_eq_true rfl⟩ (Nat.le_of_ble_eq_true rfl) (show k + 3 + 0 + 0 ≤ 601024 by omega) (show n + 18 + 0 + 0 ≤ 7293034 by omega) (fun r3 u3 h3 => ?_)
  refine J_wq (show _ = LW G ol od u m z9 M2 f9 g from rfl) ?_
  subst h3
  refine J_iload hC dL_law_2364 1 rfl ?_
  refine J_ic_eq (tgt := 2371) hC dL_law_2366 (by decide) (fun _ => ?_) (fun c9 => absurd q1 c9)
  refine J_iload hC dL_law_2371 1 rfl ?_
  refine J_if_ne (tgt := 2388) hC dL_law_2373 (by decide) (fun c9 => ?_) (fun c9 => ?_)
  · refine J_goto (tgt := 2975) hC dL_law_2388 (by decide) ?_
    refine J_lv (lv' := lvL b u m ol od c) [2, 3, 4, 5, 6, 7] rfl ?_
    refine J_wid (k' := k + 4) (n' := n + 24) (show k + 3 + 0 + 0 ≤ k + 4 by omega) (show n + 18 + 0 + 0 ≤ n + 24 by omega) ?_
    exact kk z9 M2 f9 g q3
  · refine J_aload_n hC dL_law_2376 5 rfl rfl ?_
    refine J_iconst (v := nI 0) hC dL_law_2377 rfl ?_
    refine J_lald (i := 0) (v := f9 0) hC dL_law_2378 0 rfl (by decide) (by decide) rfl ?_
    refine J_iload hC dL_law_2379 0 rfl ?_
    refine J_i2l (v := r2.toInt64) hC dL_law_2381 rfl ?_
    refine J_lcmp hC dL_law_2382 ?_
    refine J_topi (show lg_cmp (f9 0) r2.toInt64 = 0 from by rw [q2 c9]; exact lg_cmp_self _) ?_
    refine J_if_eq (tgt := 2388) hC dL_law_2383 (by decide) (fun _ => ?_) (fun c8 => absurd rfl c8)
    refine J_goto (tgt := 2975) hC dL_law_2388 (by decide) ?_
    refine J_lv (lv' := lvL b u m ol od c) [2, 3, 4, 5, 6, 7] rfl ?_
    refine J_wid (k' := k + 4) (n' := n + 24) (show k + 3 + 0 + 0 ≤ k + 4 by omega) (show n + 18 + 0 + 0 ≤ n + 24 by omega) ?_
    exact kk z9 M2 f9 g q3

set_option maxRecDepth 100000 in
set_option maxHeartbeats 4000000 in
theorem k_retract {x : JX} {G : gT} {w0 : Cond} {b L : Nat} {xs : Nat → Int32} (hX : LX x G w0 b L xs) {ol od : Nat} {u : Nat → Nat → Nat} {m : Nat → Nat} {z : OS} {M : CT} {f : Nat → Int64} {g : Nat → UInt64} {c k n : Nat} (hp : 6 * c + 6 ≤ L) (h : REL c z M) (hk : k ≤ 600000) (hn : n ≤ 7200000) (kk : LK x G b ol od u m c k n) : J x G (LW G ol od u m z M f g) k n (lvL b u m ol od c) [] 2391 := by
  obtain ⟨hC, hst, hxT, hxN, hX, hbl, hbA, hL⟩ := hX
  have hc : c ≤ 600 := by omega
  refine J_aload_n hC dL_law_2391 1 rfl rfl ?_
  refine J_aload_n hC dL_law_2392 0 rfl rfl ?_
  refine J_iload hC dL_law_2393 5 rfl ?_
  refine J_iconst (v := nI 1) hC dL_law_2395 rfl ?_
  refine J_iadd (v := nI (6 * c + 1)) hC dL_law_2396 (nI_add _ _) ?_
  refine J_sald (v := xs (6 * c + 1)) hC hX hbl hbA dL_law_2397 (by omega) (by omega) rfl ?_
  refine J_aload_n hC dL_law_2398 3 rfl rfl ?_
  refine J_callW hC hxT hxN dL_law_2399 wl_L_328 yw_retract (lw_i (u := u) (m := m) (z := z) (z1 := fun (w : Nat) => zR z (s_takeBack (zS z) w (bcO (zS z)) (vcO (zS z)))) (z2 := fun (_ : Nat × Nat) => z) (w_retract (jl x) G (ofW G u z) (u 4 0) ol _ (of_0 G u z) (xs (6 * c + 1)) f (b_retract (jl x) G u z (xs (6 * c + 1)) h.hn h.hk h.ci hst) (fun u9 hp9 => by
    rcases hp9 with ⟨e8, _⟩ | ⟨e8, _⟩
    · exact Or.inl (if_pos e8)
    · exact Or.inr (if_neg (by rw [e8]; decide))))) rfl rfl ⟨Nat.le_of_ble_eq_true rfl, Nat.le_of_ble_eq_true rfl⟩ (Nat.le_of_ble_eq_true rfl) (show k + 2 ≤ 601024 by omega) (show n + 12 ≤ 7293034 by omega) (fun r v hv => ?_)
  obtain ⟨z9, hz9⟩ : ∃ q, q = zW (fun (w : Nat) => zR z (s_takeBack (zS z) w (bcO (zS z)) (vcO (zS z)))) (fun (_ : Nat × Nat) => z) v := ⟨_, rfl⟩
  obtain ⟨f9, hf9⟩ : ∃ q, q = fW f v := ⟨_, rfl⟩
  refine J_wq (show _ = LW G ol od u m z9 M f9 g from by rw [hz9, hf9]) ?_
  refine J_istore hC [(6, .int r), (0, .ref b), (1, .ref (u 4 0)), (2, .ref (m 0)), (3, .ref ol), (4, .ref od), (5, .int (nI (6 * c)))] dL_law_2402 (by decide) rfl ?_
  refine J_aload_n hC dL_law_2404 3 rfl rfl ?_
  refine J_aload_n hC dL_law_2405 1 rfl rfl ?_
  refine J_iload hC dL_law_2406 6 rfl ?_
  refine J_iconst (v := nI 1) hC dL_law_2408 rfl ?_
  refine J_iadd (v := nI (6 * c + 1)) hC dL_law_2409 (nI_add _ _) ?_
  refine J_sald (v := xs (6 * c + 1)) hC hX hbl hbA dL_law_2410 (by omega) (by omega) rfl ?_
  obtain ⟨fs2, hm2⟩ := lw_m G ol od u m z9 M f9 g
  refine J_callVi hC dL_law_2411 wl_L_330 yi_X11_retract (lm_i (c_X11_retract _ G m M (m_bc (M 0)) (m_vc (M 0)) (m_fc (M 0)) (m_mc (M 0)) (cl (M 8 0)) (cl (M 8 1)) (xs (6 * c + 1)) h.bc.1 h.bc.2 h.vc.1 h.vc.2 h.fc.1 h.fc.2 h.mc.1 h.mc.2 h.un.1 h.un.2 h.u0.1 h.u0.2 h.gi)) rfl rfl 275 11 hm2 rfl ⟨Nat.le_of_ble_eq_true rfl, Nat.le_of_ble_eq_true rfl⟩ (Nat.le_of_ble_eq_true rfl) (show k + 2 + 0 ≤ 601024 by omega) (show n + 12 + 0 ≤ 7293034 by omega) (fun r2 M2 h2 => ?_)
  obtain ⟨q1, q2, q3⟩ := eq_retract h hc (f := f) (xs (6 * c + 1)) hv h2
  rw [← hz9] at q3
  rw [← hf9] at q2
  refine J_istore hC [(7, .int r2), (6, .int r), (0, .ref b), (1, .ref (u 4 0)), (2, .ref (m 0)), (3, .ref ol), (4, .ref od), (5, .int (nI (6 * c)))] dL_law_2414 (by decide) rfl ?_
  refine J_aload_n hC dL_law_2416 4 rfl rfl ?_
  obtain ⟨fs3, hm3⟩ := lw_m G ol od u m z9 M2 f9 g
  refine J_callVi hC dL_law_2417 wl_L_149 yi_X11_thrown (lm_i (c_X11_thrown _ G m M2)) rfl rfl 275 11 hm3 rfl ⟨Nat.le_of_ble_eq_true rfl, Nat.le_of_ble_eq_true rfl⟩ (Nat.le_of_ble_eq_true rfl) (show k + 2 + 0 + 0 ≤ 601024 by omega) (show n + 12 + 0 + 0 ≤ 7293034 by omega) (fun r3 u3 h3 => ?_)
  refine J_wq (show _ = LW G ol od u m z9 M2 f9 g from rfl) ?_
  subst h3
  refine J_iload hC dL_law_2420 1 rfl ?_
  refine J_ic_eq (tgt := 2427) hC dL_law_2422 (by decide) (fun _ => ?_) (fun c9 => absurd q1 c9)
  refine J_iload hC dL_law_2427 1 rfl ?_
  refine J_if_ne (tgt := 2444) hC dL_law_2429 (by decide) (fun c9 => ?_) (fun c9 => ?_)
  · refine J_goto (tgt := 2975) hC dL_law_2444 (by decide) ?_
    refine J_lv (lv' := lvL b u m ol od c) [2, 3, 4, 5, 6, 7] rfl ?_
    refine J_wid (k' := k + 4) (n' := n + 24) (show k + 2 + 0 + 0 ≤ k + 4 by omega) (show n + 12 + 0 + 0 ≤ n + 24 by omega) ?_
    exact kk z9 M2 f9 g q3
  · refine J_aload_n hC dL_law_2432 5 rfl rfl ?_
    refine J_iconst (v := nI 0) hC dL_law_2433 rfl ?_
    refine J_lald (i := 0) (v := f9 0) hC dL_law_2434 0 rfl (by decide) (by decide) rfl ?_
    refine J_iload hC dL_law_2435 0 rfl ?_
    refine J_i2l (v := r2.toInt64) hC dL_law_2437 rfl ?_
    refine J_lcmp hC dL_law_2438 ?_
    refine J_topi (show lg_cmp (f9 0) r2.toInt64 = 0 from by rw [q2 c9]; exact lg_cmp_self _) ?_
    refine J_if_eq (tgt := 2444) hC dL_law_2439 (by decide) (fun _ => ?_) (fun c8 => absurd rfl c8)
    refine J_goto (tgt := 2975) hC dL_law_2444 (by decide) ?_
    refine J_lv (lv' := lvL b u m ol od c) [2, 3, 4, 5, 6, 7] rfl ?_
    refine J_wid (k' := k + 4) (n' := n + 24) (show k + 2 + 0 + 0 ≤ k + 4 by omega) (show n + 12 + 0 + 0 ≤ n + 24 by omega) ?_
    exact kk z9 M2 f9 g q3

set_option maxRecDepth 100000 in
set_option maxHeartbeats 4000000 in
theorem k_setTrust {x : JX} {G : gT} {w0 : Cond} {b L : Nat} {xs : Nat → Int32} (hX : LX x G w0 b L xs) {ol od : Nat} {u : Nat → Nat → Nat} {m : Nat → Nat} {z : OS} {M : CT} {f : Nat → Int64} {g : Nat → UInt64} {c k n : Nat} (hp : 6 * c + 6 ≤ L) (h : REL c z M) (hk : k ≤ 600000) (hn : n ≤ 7200000) (kk : LK x G b ol od u m c k n) : J x G (LW G ol od u m z M f g) k n (lvL b u m ol od c) [] 2447 := by
  obtain ⟨hC, hst, hxT, hxN, hX, hbl, hbA, hL⟩ := hX
  have hc : c ≤ 600 := by omega
  refine J_aload_n hC dL_law_2447 1 rfl rfl ?_
  refine J_aload_n hC dL_law_2448 0 rfl rfl ?_
  refine J_iload hC dL_law_2449 5 rfl ?_
  refine J_iconst (v := nI 1) hC dL_law_2451 rfl ?_
  refine J_iadd (v := nI (6 * c + 1)) hC dL_law_2452 (nI_add _ _) ?_
  refine J_sald (v := xs (6 * c + 1)) hC hX hbl hbA dL_law_2453 (by omega) (by omega) rfl ?_
  refine J_aload_n hC dL_law_2454 0 rfl rfl ?_
  refine J_iload hC dL_law_2455 5 rfl ?_
  refine J_iconst (v := nI 2) hC dL_law_2457 rfl ?_
  refine J_iadd (v := nI (6 * c + 2)) hC dL_law_2458 (nI_add _ _) ?_
  refine J_sald (v := xs (6 * c + 2)) hC hX hbl hbA dL_law_2459 (by omega) (by omega) rfl ?_
  refine J_aload_n hC dL_law_2460 3 rfl rfl ?_
  refine J_callW hC hxT hxN dL_law_2461 wl_L_331 yw_setTrust (lw_i (u := u) (m := m) (z := z) (z1 := fun (w : Nat) => zR z (us (zS z) 2 w (xs (6 * c + 2)))) (z2 := fun (_ : Nat) => z) (w_setTrust (jl x) G (ofW G u z) (u 4 0) ol _ (of_0 G u z) (xs (6 * c + 1)) (xs (6 * c + 2)) f (b_setTrust (jl x) G u z (xs (6 * c + 1)) (xs (6 * c + 2)) h.hn h.hk h.ci hst) (fun u9 hp9 => by
    rcases hp9 with ⟨e8, _⟩ | ⟨e8, _⟩
    · exact Or.inl (if_pos e8)
    · exact Or.inr (if_neg (by rw [e8]; decide))))) rfl rfl ⟨Nat.le_of_ble_eq_true rfl, Nat.le_of_ble_eq_true rfl⟩ (Nat.le_of_ble_eq_true rfl) (show k + 2 ≤ 601024 by omega) (show n + 12 ≤ 7293034 by omega) (fun r v hv => ?_)
  obtain ⟨z9, hz9⟩ : ∃ q, q = zW (fun (w : Nat) => zR z (us (zS z) 2 w (xs (6 * c + 2)))) (fun (_ : Nat) => z) v := ⟨_, rfl⟩
  obtain ⟨f9, hf9⟩ : ∃ q, q = fW f v := ⟨_, rfl⟩
  refine J_wq (show _ = LW G ol od u m z9 M f9 g from by rw [hz9, hf9]) ?_
  refine J_istore hC [(6, .int r), (0, .ref b), (1, .ref (u 4 0)), (2, .ref (m 0)), (3, .ref ol), (4, .ref od), (5, .int (nI (6 * c)))] dL_law_2464 (by decide) rfl ?_
  refine J_aload_n hC dL_law_2466 3 rfl rfl ?_
  refine J_aload_n hC dL_law_2467 1 rfl rfl ?_
  refine J_iload hC dL_law_2468 6 rfl ?_
  refine J_iconst (v := nI 1) hC dL_law_2470 rfl ?_
  refine J_iadd (v := nI (6 * c + 1)) hC dL_law_2471 (nI_add _ _) ?_
  refine J_sald (v := xs (6 * c + 1)) hC hX hbl hbA dL_law_2472 (by omega) (by omega) rfl ?_
  refine J_aload_n hC dL_law_2473 1 rfl rfl ?_
  refine J_iload hC dL_law_2474 6 rfl ?_
  refine J_iconst (v := nI 2) hC dL_law_2476 rfl ?_
  refine J_iadd (v := nI (6 * c + 2)) hC dL_law_2477 (nI_add _ _) ?_
  refine J_sald (v := xs (6 * c + 2)) hC hX hbl hbA dL_law_2478 (by omega) (by omega) rfl ?_
  obtain ⟨fs2, hm2⟩ := lw_m G ol od u m z9 M f9 g
  refine J_callVi hC dL_law_2479 wl_L_333 yi_X11_setTrust (lm_i (c_X11_setTrust _ G m M (m_vc (M 0)) (cl (M 8 0)) (cl (M 8 1)) (xs (6 * c + 1)) (xs (6 * c + 2)) h.vc.1 h.vc.2 h.un.1 h.un.2 h.u0.1 h.u0.2)) rfl rfl 275 11 hm2 rfl ⟨Nat.le_of_ble_eq_true rfl, Nat.le_of_ble_eq_true rfl⟩ (Nat.le_of_ble_eq_true rfl) (show k + 2 + 0 ≤ 601024 by omega) (show n + 12 + 0 ≤ 7293034 by omega) (fun r2 M2 h2 => ?_)
  obtain ⟨q1, q2, q3⟩ := eq_setTrust h hc (f := f) (xs (6 * c + 1)) (xs (6 * c + 2)) hv h2
  rw [← hz9] at q3
  rw [← hf9] at q2
  refine J_istore hC [(7, .int r2), (6, .int r), (0, .ref b), (1, .ref (u 4 0)), (2, .ref (m 0)), (3, .ref ol), (4, .ref od), (5, .int (nI (6 * c)))] dL_law_2482 (by decide) rfl ?_
  refine J_aload_n hC dL_law_2484 4 rfl rfl ?_
  obtain ⟨fs3, hm3⟩ := lw_m G ol od u m z9 M2 f9 g
  refine J_callVi hC dL_law_2485 wl_L_149 yi_X11_thrown (lm_i (c_X11_thrown _ G m M2)) rfl rfl 275 11 hm3 rfl ⟨Nat.le_of_ble_eq_true rfl, Nat.le_of_ble_eq_true rfl⟩ (Nat.le_of_ble_eq_true rfl) (show k + 2 + 0 + 0 ≤ 601024 by omega) (show n + 12 + 0 + 0 ≤ 7293034 by omega) (fun r3 u3 h3 => ?_)
  refine J_wq (show _ = LW G ol od u m z9 M2 f9 g from rfl) ?_
  subst h3
  refine J_iload hC dL_law_2488 1 rfl ?_
  refine J_ic_eq (tgt := 2495) hC dL_law_2490 (by decide) (fun _ => ?_) (fun c9 => absurd q1 c9)
  refine J_iload hC dL_law_2495 1 rfl ?_
  refine J_if_ne (tgt := 2512) hC dL_law_2497 (by decide) (fun c9 => ?_) (fun c9 => ?_)
  · refine J_goto (tgt := 2975) hC dL_law_2512 (by decide) ?_
    refine J_lv (lv' := lvL b u m ol od c) [2, 3, 4, 5, 6, 7] rfl ?_
    refine J_wid (k' := k + 4) (n' := n + 24) (show k + 2 + 0 + 0 ≤ k + 4 by omega) (show n + 12 + 0 + 0 ≤ n + 24 by omega) ?_
    exact kk z9 M2 f9 g q3
  · refine J_aload_n hC dL_law_2500 5 rfl rfl ?_
    refine J_iconst (v := nI 0) hC dL_law_2501 rfl ?_
    refine J_lald (i := 0) (v := f9 0) hC dL_law_2502 0 rfl (by decide) (by decide) rfl ?_
    refine J_iload hC dL_law_2503 0 rfl ?_
    refine J_i2l (v := r2.toInt64) hC dL_law_2505 rfl ?_
    refine J_lcmp hC dL_law_2506 ?_
    refine J_topi (show lg_cmp (f9 0) r2.toInt64 = 0 from by rw [q2 c9]; exact lg_cmp_self _) ?_
    refine J_if_eq (tgt := 2512) hC dL_law_2507 (by decide) (fun _ => ?_) (fun c8 => absurd rfl c8)
    refine J_goto (tgt := 2975) hC dL_law_2512 (by decide) ?_
    refine J_lv (lv' := lvL b u m ol od c) [2, 3, 4, 5, 6, 7] rfl ?_
    refine J_wid (k' := k + 4) (n' := n + 24) (show k + 2 + 0 + 0 ≤ k + 4 by omega) (show n + 12 + 0 + 0 ≤ n + 24 by omega) ?_
    exact kk z9 M2 f9 g q3

set_option maxRecDepth 100000 in
set_option maxHeartbeats 4000000 in
theorem k_setPeople {x : JX} {G : gT} {w0 : Cond} {b L : Nat} {xs : Nat → Int32} (hX : LX x G w0 b L xs) {ol od : Nat} {u : Nat → Nat → Nat} {m : Nat → Nat} {z : OS} {M : CT} {f : Nat → Int64} {g : Nat → UInt64} {c k n : Nat} (hp : 6 * c + 6 ≤ L) (h : REL c z M) (hk : k ≤ 600000) (hn : n ≤ 7200000) (kk : LK x G b ol od u m c k n) : J x G (LW G ol od u m z M f g) k n (lvL b u m ol od c) [] 2515 := by
  obtain ⟨hC, hst, hxT, hxN, hX, hbl, hbA, hL⟩ := hX
  have hc : c ≤ 600 := by omega
  refine J_aload_n hC dL_law_2515 1 rfl rfl ?_
  refine J_aload_n hC dL_law_2516 0 rfl rfl ?_
  refine J_iload hC dL_law_2517 5 rfl ?_
  refine J_iconst (v := nI 1) hC dL_law_2519 rfl ?_
  refine J_iadd (v := nI (6 * c + 1)) hC dL_law_2520 (nI_add _ _) ?_
  refine J_sald (v := xs (6 * c + 1)) hC hX hbl hbA dL_law_2521 (by omega) (by omega) rfl ?_
  refine J_aload_n hC dL_law_2522 0 rfl rfl ?_
  refine J_iload hC dL_law_2523 5 rfl ?_
  refine J_iconst (v := nI 2) hC dL_law_2525 rfl ?_
  refine J_iadd (v := nI (6 * c + 2)) hC dL_law_2526 (nI_add _ _) ?_
  refine J_sald (v := xs (6 * c + 2)) hC hX hbl hbA dL_law_2527 (by omega) (by omega) rfl ?_
  refine J_aload_n hC dL_law_2528 3 rfl rfl ?_
  refine J_callW hC hxT hxN dL_law_2529 wl_L_334 yw_setPeople (lw_i (u := u) (m := m) (z := z) (z1 := fun (w : Nat) => zR z (us (zS z) 1 w (xs (6 * c + 2)))) (z2 := fun (_ : Nat) => z) (w_setPeople (jl x) G (ofW G u z) (u 4 0) ol _ (of_0 G u z) (xs (6 * c + 1)) (xs (6 * c + 2)) f (b_setPeople (jl x) G u z (xs (6 * c + 1)) (xs (6 * c + 2)) h.hn h.hk h.ci hst) (fun u9 hp9 => by
    rcases hp9 with ⟨e8, _⟩ | ⟨e8, _⟩
    · exact Or.inl (if_pos e8)
    · exact Or.inr (if_neg (by rw [e8]; decide))))) rfl rfl ⟨Nat.le_of_ble_eq_true rfl, Nat.le_of_ble_eq_true rfl⟩ (Nat.le_of_ble_eq_true rfl) (show k + 2 ≤ 601024 by omega) (show n + 12 ≤ 7293034 by omega) (fun r v hv => ?_)
  obtain ⟨z9, hz9⟩ : ∃ q, q = zW (fun (w : Nat) => zR z (us (zS z) 1 w (xs (6 * c + 2)))) (fun (_ : Nat) => z) v := ⟨_, rfl⟩
  obtain ⟨f9, hf9⟩ : ∃ q, q = fW f v := ⟨_, rfl⟩
  refine J_wq (show _ = LW G ol od u m z9 M f9 g from by rw [hz9, hf9]) ?_
  refine J_istore hC [(6, .int r), (0, .ref b), (1, .ref (u 4 0)), (2, .ref (m 0)), (3, .ref ol), (4, .ref od), (5, .int (nI (6 * c)))] dL_law_2532 (by decide) rfl ?_
  refine J_aload_n hC dL_law_2534 3 rfl rfl ?_
  refine J_aload_n hC dL_law_2535 1 rfl rfl ?_
  refine J_iload hC dL_law_2536 6 rfl ?_
  refine J_iconst (v := nI 1) hC dL_law_2538 rfl ?_
  refine J_iadd (v := nI (6 * c + 1)) hC dL_law_2539 (nI_add _ _) ?_
  refine J_sald (v := xs (6 * c + 1)) hC hX hbl hbA dL_law_2540 (by omega) (by omega) rfl ?_
  refine J_aload_n hC dL_law_2541 1 rfl rfl ?_
  refine J_iload hC dL_law_2542 6 rfl ?_
  refine J_iconst (v := nI 2) hC dL_law_2544 rfl ?_
  refine J_iadd (v := nI (6 * c + 2)) hC dL_law_2545 (nI_add _ _) ?_
  refine J_sald (v := xs (6 * c + 2)) hC hX hbl hbA dL_law_2546 (by omega) (by omega) rfl ?_
  obtain ⟨fs2, hm2⟩ := lw_m G ol od u m z9 M f9 g
  refine J_callVi hC dL_law_2547 wl_L_336 yi_X11_setPeople (lm_i (c_X11_setPeople _ G m M (m_vc (M 0)) (cl (M 8 0)) (cl (M 8 1)) (xs (6 * c + 1)) (xs (6 * c + 2)) h.vc.1 h.vc.2 h.un.1 h.un.2 h.u0.1 h.u0.2)) rfl rfl 275 11 hm2 rfl ⟨Nat.le_of_ble_eq_true rfl, Nat.le_of_ble_eq_true rfl⟩ (Nat.le_of_ble_eq_true rfl) (show k + 2 + 0 ≤ 601024 by omega) (show n + 12 + 0 ≤ 7293034 by omega) (fun r2 M2 h2 => ?_)
  obtain ⟨q1, q2, q3⟩ := eq_setPeople h hc (f := f) (xs (6 * c + 1)) (xs (6 * c + 2)) hv h2
  rw [← hz9] at q3
  rw [← hf9] at q2
  refine J_istore hC [(7, .int r2), (6, .int r), (0, .ref b), (1, .ref (u 4 0)), (2, .ref (m 0)), (3, .ref ol), (4, .ref od), (5, .int (nI (6 * c)))] dL_law_2550 (by decide) rfl ?_
  refine J_aload_n hC dL_law_2552 4 rfl rfl ?_
  obtain ⟨fs3, hm3⟩ := lw_m G ol od u m z9 M2 f9 g
  refine J_callVi hC dL_law_2553 wl_L_149 yi_X11_thrown (lm_i (c_X11_thrown _ G m M2)) rfl rfl 275 11 hm3 rfl ⟨Nat.le_of_ble_eq_true rfl, Nat.le_of_ble_eq_true rfl⟩ (Nat.le_of_ble_eq_true rfl) (show k + 2 + 0 + 0 ≤ 601024 by omega) (show n + 12 + 0 + 0 ≤ 7293034 by omega) (fun r3 u3 h3 => ?_)
  refine J_wq (show _ = LW G ol od u m z9 M2 f9 g from rfl) ?_
  subst h3
  refine J_iload hC dL_law_2556 1 rfl ?_
  refine J_ic_eq (tgt := 2563) hC dL_law_2558 (by decide) (fun _ => ?_) (fun c9 => absurd q1 c9)
  refine J_iload hC dL_law_2563 1 rfl ?_
  refine J_if_ne (tgt := 2580) hC dL_law_2565 (by decide) (fun c9 => ?_) (fun c9 => ?_)
  · refine J_goto (tgt := 2975) hC dL_law_2580 (by decide) ?_
    refine J_lv (lv' := lvL b u m ol od c) [2, 3, 4, 5, 6, 7] rfl ?_
    refine J_wid (k' := k + 4) (n' := n + 24) (show k + 2 + 0 + 0 ≤ k + 4 by omega) (show n + 12 + 0 + 0 ≤ n + 24 by omega) ?_
    exact kk z9 M2 f9 g q3
  · refine J_aload_n hC dL_law_2568 5 rfl rfl ?_
    refine J_iconst (v := nI 0) hC dL_law_2569 rfl ?_
    refine J_lald (i := 0) (v := f9 0) hC dL_law_2570 0 rfl (by decide) (by decide) rfl ?_
    refine J_iload hC dL_law_2571 0 rfl ?_
    refine J_i2l (v := r2.toInt64) hC dL_law_2573 rfl ?_
    refine J_lcmp hC dL_law_2574 ?_
    refine J_topi (show lg_cmp (f9 0) r2.toInt64 = 0 from by rw [q2 c9]; exact lg_cmp_self _) ?_
    refine J_if_eq (tgt := 2580) hC dL_law_2575 (by decide) (fun _ => ?_) (fun c8 => absurd rfl c8)
    refine J_goto (tgt := 2975) hC dL_law_2580 (by decide) ?_
    refine J_lv (lv' := lvL b u m ol od c) [2, 3, 4, 5, 6, 7] rfl ?_
    refine J_wid (k' := k + 4) (n' := n + 24) (show k + 2 + 0 + 0 ≤ k + 4 by omega) (show n + 12 + 0 + 0 ≤ n + 24 by omega) ?_
    exact kk z9 M2 f9 g q3

set_option maxRecDepth 100000 in
set_option maxHeartbeats 4000000 in
theorem k_setOdds {x : JX} {G : gT} {w0 : Cond} {b L : Nat} {xs : Nat → Int32} (hX : LX x G w0 b L xs) {ol od : Nat} {u : Nat → Nat → Nat} {m : Nat → Nat} {z : OS} {M : CT} {f : Nat → Int64} {g : Nat → UInt64} {c k n : Nat} (hp : 6 * c + 6 ≤ L) (h : REL c z M) (hk : k ≤ 600000) (hn : n ≤ 7200000) (kk : LK x G b ol od u m c k n) : J x G (LW G ol od u m z M f g) k n (lvL b u m ol od c) [] 2583 := by
  obtain ⟨hC, hst, hxT, hxN, hX, hbl, hbA, hL⟩ := hX
  have hc : c ≤ 600 := by omega
  refine J_aload_n hC dL_law_2583 1 rfl rfl ?_
  refine J_aload_n hC dL_law_2584 0 rfl rfl ?_
  refine J_iload hC dL_law_2585 5 rfl ?_
  refine J_iconst (v := nI 1) hC dL_law_2587 rfl ?_
  refine J_iadd (v := nI (6 * c + 1)) hC dL_law_2588 (nI_add _ _) ?_
  refine J_sald (v := xs (6 * c + 1)) hC hX hbl hbA dL_law_2589 (by omega) (by omega) rfl ?_
  refine J_aload_n hC dL_law_2590 0 rfl rfl ?_
  refine J_iload hC dL_law_2591 5 rfl ?_
  refine J_iconst (v := nI 2) hC dL_law_2593 rfl ?_
  refine J_iadd (v := nI (6 * c + 2)) hC dL_law_2594 (nI_add _ _) ?_
  refine J_sald (v := xs (6 * c + 2)) hC hX hbl hbA dL_law_2595 (by omega) (by omega) rfl ?_
  refine J_aload_n hC dL_law_2596 3 rfl rfl ?_
  refine J_callW hC hxT hxN dL_law_2597 wl_L_337 yw_setOdds (lw_i (u := u) (m := m) (z := z) (z1 := fun (w : Nat) => zR z (us (zS z) 8 w (xs (6 * c + 2)))) (z2 := fun (_ : Nat × Nat) => z) (w_setOdds (jl x) G (ofW G u z) (u 4 0) ol _ (of_0 G u z) (xs (6 * c + 1)) (xs (6 * c + 2)) f (b_setOdds (jl x) G u z (xs (6 * c + 1)) (xs (6 * c + 2)) h.hn h.hk h.ci hst) (fun u9 hp9 => by
    rcases hp9 with ⟨e8, _⟩ | ⟨e8, _⟩ | ⟨e8, _⟩
    · exact Or.inl (if_pos e8)
    · exact Or.inl (if_pos e8)
    · exact Or.inr (if_neg (by rw [e8]; decide))))) rfl rfl ⟨Nat.le_of_ble_eq_true rfl, Nat.le_of_ble_eq_true rfl⟩ (Nat.le_of_ble_eq_true rfl) (show k + 3 ≤ 601024 by omega) (show n + 18 ≤ 7293034 by omega) (fun r v hv => ?_)
  obtain ⟨z9, hz9⟩ : ∃ q, q = zW (fun (w : Nat) => zR z (us (zS z) 8 w (xs (6 * c + 2)))) (fun (_ : Nat × Nat) => z) v := ⟨_, rfl⟩
  obtain ⟨f9, hf9⟩ : ∃ q, q = fW f v := ⟨_, rfl⟩
  refine J_wq (show _ = LW G ol od u m z9 M f9 g from by rw [hz9, hf9]) ?_
  refine J_istore hC [(6, .int r), (0, .ref b), (1, .ref (u 4 0)), (2, .ref (m 0)), (3, .ref ol), (4, .ref od), (5, .int (nI (6 * c)))] dL_law_2600 (by decide) rfl ?_
  refine J_aload_n hC dL_law_2602 3 rfl rfl ?_
  refine J_aload_n hC dL_law_2603 1 rfl rfl ?_
  refine J_iload hC dL_law_2604 6 rfl ?_
  refine J_iconst (v := nI 1) hC dL_law_2606 rfl ?_
  refine J_iadd (v := nI (6 * c + 1)) hC dL_law_2607 (nI_add _ _) ?_
  refine J_sald (v := xs (6 * c + 1)) hC hX hbl hbA dL_law_2608 (by omega) (by omega) rfl ?_
  refine J_aload_n hC dL_law_2609 1 rfl rfl ?_
  refine J_iload hC dL_law_2610 6 rfl ?_
  refine J_iconst (v := nI 2) hC dL_law_2612 rfl ?_
  refine J_iadd (v := nI (6 * c + 2)) hC dL_law_2613 (nI_add _ _) ?_
  refine J_sald (v := xs (6 * c + 2)) hC hX hbl hbA dL_law_2614 (by omega) (by omega) rfl ?_
  obtain ⟨fs2, hm2⟩ := lw_m G ol od u m z9 M f9 g
  refine J_callVi hC dL_law_2615 wl_L_339 yi_X11_setOdds (lm_i (c_X11_setOdds _ G m M (cl (M 8 0)) (cl (M 8 1)) (xs (6 * c + 1)) (xs (6 * c + 2)) h.un.1 h.un.2 h.u0.1 h.u0.2)) rfl rfl 275 11 hm2 rfl ⟨Nat.le_of_ble_eq_true rfl, Nat.le_of_ble_eq_true rfl⟩ (Nat.le_of_ble_eq_true rfl) (show k + 3 + 0 ≤ 601024 by omega) (show n + 18 + 0 ≤ 7293034 by omega) (fun r2 M2 h2 => ?_)
  obtain ⟨q1, q2, q3⟩ := eq_setOdds h hc (f := f) (xs (6 * c + 1)) (xs (6 * c + 2)) hv h2
  rw [← hz9] at q3
  rw [← hf9] at q2
  refine J_istore hC [(7, .int r2), (6, .int r), (0, .ref b), (1, .ref (u 4 0)), (2, .ref (m 0)), (3, .ref ol), (4, .ref od), (5, .int (nI (6 * c)))] dL_law_2618 (by decide) rfl ?_
  refine J_aload_n hC dL_law_2620 4 rfl rfl ?_
  obtain ⟨fs3, hm3⟩ := lw_m G ol od u m z9 M2 f9 g
  refine J_callVi hC dL_law_2621 wl_L_149 yi_X11_thrown (lm_i (c_X11_thrown _ G m M2)) rfl rfl 275 11 hm3 rfl ⟨Nat.le_of_ble_eq_true rfl, Nat.le_of_ble_eq_true rfl⟩ (Nat.le_of_ble_eq_true rfl) (show k + 3 + 0 + 0 ≤ 601024 by omega) (show n + 18 + 0 + 0 ≤ 7293034 by omega) (fun r3 u3 h3 => ?_)
  refine J_wq (show _ = LW G ol od u m z9 M2 f9 g from rfl) ?_
  subst h3
  refine J_iload hC dL_law_2624 1 rfl ?_
  refine J_ic_eq (tgt := 2631) hC dL_law_2626 (by decide) (fun _ => ?_) (fun c9 => absurd q1 c9)
  refine J_iload hC dL_law_2631 1 rfl ?_
  refine J_if_ne (tgt := 2648) hC dL_law_2633 (by decide) (fun c9 => ?_) (fun c9 => ?_)
  · refine J_goto (tgt := 2975) hC dL_law_2648 (by decide) ?_
    refine J_lv (lv' := lvL b u m ol od c) [2, 3, 4, 5, 6, 7] rfl ?_
    refine J_wid (k' := k + 4) (n' := n + 24) (show k + 3 + 0 + 0 ≤ k + 4 by omega) (show n + 18 + 0 + 0 ≤ n + 24 by omega) ?_
    exact kk z9 M2 f9 g q3
  · refine J_aload_n hC dL_law_2636 5 rfl rfl ?_
    refine J_iconst (v := nI 0) hC dL_law_2637 rfl ?_
    refine J_lald (i := 0) (v := f9 0) hC dL_law_2638 0 rfl (by decide) (by decide) rfl ?_
    refine J_iload hC dL_law_2639 0 rfl ?_
    refine J_i2l (v := r2.toInt64) hC dL_law_2641 rfl ?_
    refine J_lcmp hC dL_law_2642 ?_
    refine J_topi (show lg_cmp (f9 0) r2.toInt64 = 0 from by rw [q2 c9]; exact lg_cmp_self _) ?_
    refine J_if_eq (tgt := 2648) hC dL_law_2643 (by decide) (fun _ => ?_) (fun c8 => absurd rfl c8)
    refine J_goto (tgt := 2975) hC dL_law_2648 (by decide) ?_
    refine J_lv (lv' := lvL b u m ol od c) [2, 3, 4, 5, 6, 7] rfl ?_
    refine J_wid (k' := k + 4) (n' := n + 24) (show k + 3 + 0 + 0 ≤ k + 4 by omega) (show n + 18 + 0 + 0 ≤ n + 24 by omega) ?_
    exact kk z9 M2 f9 g q3

set_option maxRecDepth 100000 in
set_option maxHeartbeats 4000000 in
theorem k_pass {x : JX} {G : gT} {w0 : Cond} {b L : Nat} {xs : Nat → Int32} (hX : LX x G w0 b L xs) {ol od : Nat} {u : Nat → Nat → Nat} {m : Nat → Nat} {z : OS} {M : CT} {f : Nat → Int64} {g : Nat → UInt64} {c k n : Nat} (hp : 6 * c + 6 ≤ L) (h : REL c z M) (hk : k ≤ 600000) (hn : n ≤ 7200000) (kk : LK x G b ol od u m c k n) : J x G (LW G ol od u m z M f g) k n (lvL b u m ol od c) [] 2651 := by
  obtain ⟨hC, hst, hxT, hxN, hX, hbl, hbA, hL⟩ := hX
  have hc : c ≤ 600 := by omega
  refine J_aload_n hC dL_law_2651 1 rfl rfl ?_
  refine J_aload_n hC dL_law_2652 0 rfl rfl ?_
  refine J_iload hC dL_law_2653 5 rfl ?_
  refine J_iconst (v := nI 1) hC dL_law_2655 rfl ?_
  refine J_iadd (v := nI (6 * c + 1)) hC dL_law_2656 (nI_add _ _) ?_
  refine J_sald (v := xs (6 * c + 1)) hC hX hbl hbA dL_law_2657 (by omega) (by omega) rfl ?_
  refine J_aload_n hC dL_law_2658 3 rfl rfl ?_
  refine J_callW hC hxT hxN dL_law_2659 wl_L_340 yw_pass (lw_i (u := u) (m := m) (z := z) (z1 := fun (w : Nat) => zR z (s_days w (zS z))) (z2 := fun (_ : Unit) => z) (w_pass (jl x) G (ofW G u z) (u 4 0) ol _ (of_0 G u z) (xs (6 * c + 1)) f (b_pass (jl x) G u z (xs (6 * c + 1)) h.hn h.hk h.ci hst) (fun _ _ => rfl))) rfl rfl ⟨Nat.le_of_ble_eq_true rfl, Nat.le_of_ble_eq_true rfl⟩ (Nat.le_of_ble_eq_true rfl) (show k + 1 ≤ 601024 by omega) (show n + 6 ≤ 7293034 by omega) (fun r v hv => ?_)
  obtain ⟨z9, hz9⟩ : ∃ q, q = zW (fun (w : Nat) => zR z (s_days w (zS z))) (fun (_ : Unit) => z) v := ⟨_, rfl⟩
  obtain ⟨f9, hf9⟩ : ∃ q, q = fW f v := ⟨_, rfl⟩
  refine J_wq (show _ = LW G ol od u m z9 M f9 g from by rw [hz9, hf9]) ?_
  refine J_istore hC [(6, .int r), (0, .ref b), (1, .ref (u 4 0)), (2, .ref (m 0)), (3, .ref ol), (4, .ref od), (5, .int (nI (6 * c)))] dL_law_2662 (by decide) rfl ?_
  refine J_aload_n hC dL_law_2664 3 rfl rfl ?_
  refine J_aload_n hC dL_law_2665 1 rfl rfl ?_
  refine J_iload hC dL_law_2666 6 rfl ?_
  refine J_iconst (v := nI 1) hC dL_law_2668 rfl ?_
  refine J_iadd (v := nI (6 * c + 1)) hC dL_law_2669 (nI_add _ _) ?_
  refine J_sald (v := xs (6 * c + 1)) hC hX hbl hbA dL_law_2670 (by omega) (by omega) rfl ?_
  obtain ⟨fs2, hm2⟩ := lw_m G ol od u m z9 M f9 g
  refine J_callVi hC dL_law_2671 wl_L_342 yi_X11_pass (lm_i (c_X11_pass _ G m M (m_bc (M 0)) (m_vc (M 0)) (m_fc (M 0)) (m_mc (M 0)) (cl (M 8 0)) (cl (M 8 1)) (xs (6 * c + 1)) h.bc.1 h.bc.2 h.vc.1 h.vc.2 h.fc.1 h.fc.2 h.mc.1 h.mc.2 h.un.1 h.un.2 h.u0.1 h.u0.2 h.gi)) rfl rfl 275 11 hm2 rfl ⟨Nat.le_of_ble_eq_true rfl, Nat.le_of_ble_eq_true rfl⟩ (Nat.le_of_ble_eq_true rfl) (show k + 1 + 0 ≤ 601024 by omega) (show n + 6 + 0 ≤ 7293034 by omega) (fun r2 M2 h2 => ?_)
  obtain ⟨q1, q2, q3⟩ := eq_pass h hc (f := f) (xs (6 * c + 1)) hv h2
  rw [← hz9] at q3
  rw [← hf9] at q2
  refine J_istore hC [(7, .int r2), (6, .int r), (0, .ref b), (1, .ref (u 4 0)), (2, .ref (m 0)), (3, .ref ol), (4, .ref od), (5, .int (nI (6 * c)))] dL_law_2674 (by decide) rfl ?_
  refine J_aload_n hC dL_law_2676 4 rfl rfl ?_
  obtain ⟨fs3, hm3⟩ := lw_m G ol od u m z9 M2 f9 g
  refine J_callVi hC dL_law_2677 wl_L_149 yi_X11_thrown (lm_i (c_X11_thrown _ G m M2)) rfl rfl 275 11 hm3 rfl ⟨Nat.le_of_ble_eq_true rfl, Nat.le_of_ble_eq_true rfl⟩ (Nat.le_of_ble_eq_true rfl) (show k + 1 + 0 + 0 ≤ 601024 by omega) (show n + 6 + 0 + 0 ≤ 7293034 by omega) (fun r3 u3 h3 => ?_)
  refine J_wq (show _ = LW G ol od u m z9 M2 f9 g from rfl) ?_
  subst h3
  refine J_iload hC dL_law_2680 1 rfl ?_
  refine J_ic_eq (tgt := 2687) hC dL_law_2682 (by decide) (fun _ => ?_) (fun c9 => absurd q1 c9)
  refine J_iload hC dL_law_2687 1 rfl ?_
  refine J_if_ne (tgt := 2704) hC dL_law_2689 (by decide) (fun c9 => ?_) (fun c9 => ?_)
  · refine J_goto (tgt := 2975) hC dL_law_2704 (by decide) ?_
    refine J_lv (lv' := lvL b u m ol od c) [2, 3, 4, 5, 6, 7] rfl ?_
    refine J_wid (k' := k + 4) (n' := n + 24) (show k + 1 + 0 + 0 ≤ k + 4 by omega) (show n + 6 + 0 + 0 ≤ n + 24 by omega) ?_
    exact kk z9 M2 f9 g q3
  · refine J_aload_n hC dL_law_2692 5 rfl rfl ?_
    refine J_iconst (v := nI 0) hC dL_law_2693 rfl ?_
    refine J_lald (i := 0) (v := f9 0) hC dL_law_2694 0 rfl (by decide) (by decide) rfl ?_
    refine J_iload hC dL_law_2695 0 rfl ?_
    refine J_i2l (v := r2.toInt64) hC dL_law_2697 rfl ?_
    refine J_lcmp hC dL_law_2698 ?_
    refine J_topi (show lg_cmp (f9 0) r2.toInt64 = 0 from by rw [q2 c9]; exact lg_cmp_self _) ?_
    refine J_if_eq (tgt := 2704) hC dL_law_2699 (by decide) (fun _ => ?_) (fun c8 => absurd rfl c8)
    refine J_goto (tgt := 2975) hC dL_law_2704 (by decide) ?_
    refine J_lv (lv' := lvL b u m ol od c) [2, 3, 4, 5, 6, 7] rfl ?_
    refine J_wid (k' := k + 4) (n' := n + 24) (show k + 1 + 0 + 0 ≤ k + 4 by omega) (show n + 6 + 0 + 0 ≤ n + 24 by omega) ?_
    exact kk z9 M2 f9 g q3

set_option maxRecDepth 100000 in
set_option maxHeartbeats 4000000 in
theorem k_writePage {x : JX} {G : gT} {w0 : Cond} {b L : Nat} {xs : Nat → Int32} (hX : LX x G w0 b L xs) {ol od : Nat} {u : Nat → Nat → Nat} {m : Nat → Nat} {z : OS} {M : CT} {f : Nat → Int64} {g : Nat → UInt64} {c k n : Nat} (hp : 6 * c + 6 ≤ L) (h : REL c z M) (hk : k ≤ 600000) (hn : n ≤ 7200000) (kk : LK x G b ol od u m c k n) : J x G (LW G ol od u m z M f g) k n (lvL b u m ol od c) [] 2707 := by
  obtain ⟨hC, hst, hxT, hxN, hX, hbl, hbA, hL⟩ := hX
  have hc : c ≤ 600 := by omega
  refine J_aload_n hC dL_law_2707 1 rfl rfl ?_
  refine J_aload_n hC dL_law_2708 0 rfl rfl ?_
  refine J_iload hC dL_law_2709 5 rfl ?_
  refine J_iconst (v := nI 1) hC dL_law_2711 rfl ?_
  refine J_iadd (v := nI (6 * c + 1)) hC dL_law_2712 (nI_add _ _) ?_
  refine J_sald (v := xs (6 * c + 1)) hC hX hbl hbA dL_law_2713 (by omega) (by omega) rfl ?_
  refine J_aload_n hC dL_law_2714 3 rfl rfl ?_
  refine J_callW hC hxT hxN dL_law_2715 wl_L_343 yw_writePage (lw_i (u := u) (m := m) (z := z) (z1 := fun (w : Nat) => zOut z (b_page (zS z) w ((zo z).1, 0))) (z2 := fun (_ : Unit) => z) (w_writePage (jl x) G (ofW G u z) (u 4 0) ol _ (of_0 G u z) (xs (6 * c + 1)) f (b_writePage (jl x) G u z (xs (6 * c + 1)) h.qo h.ci (h.bk hc) hst) (fun _ _ => rfl))) rfl rfl ⟨Nat.le_of_ble_eq_true rfl, Nat.le_of_ble_eq_true rfl⟩ (Nat.le_of_ble_eq_true rfl) (show k + 1 ≤ 601024 by omega) (show n + 6 ≤ 7293034 by omega) (fun r v hv => ?_)
  obtain ⟨z9, hz9⟩ : ∃ q, q = zW (fun (w : Nat) => zOut z (b_page (zS z) w ((zo z).1, 0))) (fun (_ : Unit) => z) v := ⟨_, rfl⟩
  obtain ⟨f9, hf9⟩ : ∃ q, q = fW f v := ⟨_, rfl⟩
  refine J_wq (show _ = LW G ol od u m z9 M f9 g from by rw [hz9, hf9]) ?_
  refine J_istore hC [(6, .int r), (0, .ref b), (1, .ref (u 4 0)), (2, .ref (m 0)), (3, .ref ol), (4, .ref od), (5, .int (nI (6 * c)))] dL_law_2718 (by decide) rfl ?_
  refine J_aload_n hC dL_law_2720 3 rfl rfl ?_
  refine J_aload_n hC dL_law_2721 1 rfl rfl ?_
  refine J_iload hC dL_law_2722 6 rfl ?_
  refine J_iconst (v := nI 1) hC dL_law_2724 rfl ?_
  refine J_iadd (v := nI (6 * c + 1)) hC dL_law_2725 (nI_add _ _) ?_
  refine J_sald (v := xs (6 * c + 1)) hC hX hbl hbA dL_law_2726 (by omega) (by omega) rfl ?_
  obtain ⟨fs2, hm2⟩ := lw_m G ol od u m z9 M f9 g
  refine J_callVi hC dL_law_2727 wl_L_345 yi_X11_writePage (lm_i (c_X11_writePage _ G m M (m_bc (M 0)) (m_vc (M 0)) (m_fc (M 0)) (m_mc (M 0)) (xs (6 * c + 1)) h.bc.1 h.bc.2 h.vc.1 h.vc.2 h.fc.1 h.fc.2 h.mc.1 h.mc.2 h.gi (h.mN hc))) rfl rfl 275 11 hm2 rfl ⟨Nat.le_of_ble_eq_true rfl, Nat.le_of_ble_eq_true rfl⟩ (Nat.le_of_ble_eq_true rfl) (show k + 1 + 0 ≤ 601024 by omega) (show n + 6 + 0 ≤ 7293034 by omega) (fun r2 M2 h2 => ?_)
  obtain ⟨q1, q2, q3⟩ := eq_writePage h hc (f := f) (xs (6 * c + 1)) hv h2
  rw [← hz9] at q3
  rw [← hf9] at q2
  refine J_istore hC [(7, .int r2), (6, .int r), (0, .ref b), (1, .ref (u 4 0)), (2, .ref (m 0)), (3, .ref ol), (4, .ref od), (5, .int (nI (6 * c)))] dL_law_2730 (by decide) rfl ?_
  refine J_aload_n hC dL_law_2732 4 rfl rfl ?_
  obtain ⟨fs3, hm3⟩ := lw_m G ol od u m z9 M2 f9 g
  refine J_callVi hC dL_law_2733 wl_L_149 yi_X11_thrown (lm_i (c_X11_thrown _ G m M2)) rfl rfl 275 11 hm3 rfl ⟨Nat.le_of_ble_eq_true rfl, Nat.le_of_ble_eq_true rfl⟩ (Nat.le_of_ble_eq_true rfl) (show k + 1 + 0 + 0 ≤ 601024 by omega) (show n + 6 + 0 + 0 ≤ 7293034 by omega) (fun r3 u3 h3 => ?_)
  refine J_wq (show _ = LW G ol od u m z9 M2 f9 g from rfl) ?_
  subst h3
  refine J_iload hC dL_law_2736 1 rfl ?_
  refine J_ic_eq (tgt := 2743) hC dL_law_2738 (by decide) (fun _ => ?_) (fun c9 => absurd q1 c9)
  refine J_iload hC dL_law_2743 1 rfl ?_
  refine J_if_ne (tgt := 2760) hC dL_law_2745 (by decide) (fun c9 => ?_) (fun c9 => ?_)
  · refine J_goto (tgt := 2975) hC dL_law_2760 (by decide) ?_
    refine J_lv (lv' := lvL b u m ol od c) [2, 3, 4, 5, 6, 7] rfl ?_
    refine J_wid (k' := k + 4) (n' := n + 24) (show k + 1 + 0 + 0 ≤ k + 4 by omega) (show n + 6 + 0 + 0 ≤ n + 24 by omega) ?_
    exact kk z9 M2 f9 g q3
  · refine J_aload_n hC dL_law_2748 5 rfl rfl ?_
    refine J_iconst (v := nI 0) hC dL_law_2749 rfl ?_
    refine J_lald (i := 0) (v := f9 0) hC dL_law_2750 0 rfl (by decide) (by decide) rfl ?_
    refine J_iload hC dL_law_2751 0 rfl ?_
    refine J_i2l (v := r2.toInt64) hC dL_law_2753 rfl ?_
    refine J_lcmp hC dL_law_2754 ?_
    refine J_topi (show lg_cmp (f9 0) r2.toInt64 = 0 from by rw [q2 c9]; exact lg_cmp_self _) ?_
    refine J_if_eq (tgt := 2760) hC dL_law_2755 (by decide) (fun _ => ?_) (fun c8 => absurd rfl c8)
    refine J_goto (tgt := 2975) hC dL_law_2760 (by decide) ?_
    refine J_lv (lv' := lvL b u m ol od c) [2, 3, 4, 5, 6, 7] rfl ?_
    refine J_wid (k' := k + 4) (n' := n + 24) (show k + 1 + 0 + 0 ≤ k + 4 by omega) (show n + 6 + 0 + 0 ≤ n + 24 by omega) ?_
    exact kk z9 M2 f9 g q3

set_option maxRecDepth 100000 in
set_option maxHeartbeats 4000000 in
theorem k_outputByte {x : JX} {G : gT} {w0 : Cond} {b L : Nat} {xs : Nat → Int32} (hX : LX x G w0 b L xs) {ol od : Nat} {u : Nat → Nat → Nat} {m : Nat → Nat} {z : OS} {M : CT} {f : Nat → Int64} {g : Nat → UInt64} {c k n : Nat} (hp : 6 * c + 6 ≤ L) (h : REL c z M) (hk : k ≤ 600000) (hn : n ≤ 7200000) (kk : LK x G b ol od u m c k n) : J x G (LW G ol od u m z M f g) k n (lvL b u m ol od c) [] 2763 := by
  obtain ⟨hC, hst, hxT, hxN, hX, hbl, hbA, hL⟩ := hX
  have hc : c ≤ 600 := by omega
  refine J_aload_n hC dL_law_2763 1 rfl rfl ?_
  refine J_aload_n hC dL_law_2764 0 rfl rfl ?_
  refine J_iload hC dL_law_2765 5 rfl ?_
  refine J_iconst (v := nI 1) hC dL_law_2767 rfl ?_
  refine J_iadd (v := nI (6 * c + 1)) hC dL_law_2768 (nI_add _ _) ?_
  refine J_sald (v := xs (6 * c + 1)) hC hX hbl hbA dL_law_2769 (by omega) (by omega) rfl ?_
  refine J_aload_n hC dL_law_2770 3 rfl rfl ?_
  refine J_callW hC hxT hxN dL_law_2771 wl_L_346 yw_outputByte (lw_i (u := u) (m := m) (z := z) (z1 := fun (w : Nat) => z) (z2 := fun (_ : Unit) => z) (w_outputByte (jl x) G (ofW G u z) (u 4 0) ol _ (of_0 G u z) (xs (6 * c + 1)) f (b_outputByte (jl x) G u z (xs (6 * c + 1)) h.qo hst) (fun _ _ => rfl))) rfl rfl ⟨Nat.le_of_ble_eq_true rfl, Nat.le_of_ble_eq_true rfl⟩ (Nat.le_of_ble_eq_true rfl) (show k + 1 ≤ 601024 by omega) (show n + 6 ≤ 7293034 by omega) (fun r v hv => ?_)
  obtain ⟨z9, hz9⟩ : ∃ q, q = zW (fun (w : Nat) => z) (fun (_ : Unit) => z) v := ⟨_, rfl⟩
  obtain ⟨f9, hf9⟩ : ∃ q, q = fW f v := ⟨_, rfl⟩
  refine J_wq (show _ = LW G ol od u m z9 M f9 g from by rw [hz9, hf9]) ?_
  refine J_istore hC [(6, .int r), (0, .ref b), (1, .ref (u 4 0)), (2, .ref (m 0)), (3, .ref ol), (4, .ref od), (5, .int (nI (6 * c)))] dL_law_2774 (by decide) rfl ?_
  refine J_aload_n hC dL_law_2776 3 rfl rfl ?_
  refine J_aload_n hC dL_law_2777 1 rfl rfl ?_
  refine J_iload hC dL_law_2778 6 rfl ?_
  refine J_iconst (v := nI 1) hC dL_law_2780 rfl ?_
  refine J_iadd (v := nI (6 * c + 1)) hC dL_law_2781 (nI_add _ _) ?_
  refine J_sald (v := xs (6 * c + 1)) hC hX hbl hbA dL_law_2782 (by omega) (by omega) rfl ?_
  obtain ⟨fs2, hm2⟩ := lw_m G ol od u m z9 M f9 g
  refine J_callVi hC dL_law_2783 wl_L_348 yi_X11_outputByte (lm_i (c_X11_outputByte _ G m M (cl (M 8 11)) (xs (6 * c + 1)) h.ol.1 h.ol.2)) rfl rfl 275 11 hm2 rfl ⟨Nat.le_of_ble_eq_true rfl, Nat.le_of_ble_eq_true rfl⟩ (Nat.le_of_ble_eq_true rfl) (show k + 1 + 0 ≤ 601024 by omega) (show n + 6 + 0 ≤ 7293034 by omega) (fun r2 M2 h2 => ?_)
  obtain ⟨q1, q2, q3⟩ := eq_outputByte h hc (f := f) (xs (6 * c + 1)) hv h2
  rw [← hz9] at q3
  rw [← hf9] at q2
  refine J_istore hC [(7, .int r2), (6, .int r), (0, .ref b), (1, .ref (u 4 0)), (2, .ref (m 0)), (3, .ref ol), (4, .ref od), (5, .int (nI (6 * c)))] dL_law_2786 (by decide) rfl ?_
  refine J_aload_n hC dL_law_2788 4 rfl rfl ?_
  obtain ⟨fs3, hm3⟩ := lw_m G ol od u m z9 M2 f9 g
  refine J_callVi hC dL_law_2789 wl_L_149 yi_X11_thrown (lm_i (c_X11_thrown _ G m M2)) rfl rfl 275 11 hm3 rfl ⟨Nat.le_of_ble_eq_true rfl, Nat.le_of_ble_eq_true rfl⟩ (Nat.le_of_ble_eq_true rfl) (show k + 1 + 0 + 0 ≤ 601024 by omega) (show n + 6 + 0 + 0 ≤ 7293034 by omega) (fun r3 u3 h3 => ?_)
  refine J_wq (show _ = LW G ol od u m z9 M2 f9 g from rfl) ?_
  subst h3
  refine J_iload hC dL_law_2792 1 rfl ?_
  refine J_ic_eq (tgt := 2799) hC dL_law_2794 (by decide) (fun _ => ?_) (fun c9 => absurd q1 c9)
  refine J_iload hC dL_law_2799 1 rfl ?_
  refine J_if_ne (tgt := 2816) hC dL_law_2801 (by decide) (fun c9 => ?_) (fun c9 => ?_)
  · refine J_goto (tgt := 2975) hC dL_law_2816 (by decide) ?_
    refine J_lv (lv' := lvL b u m ol od c) [2, 3, 4, 5, 6, 7] rfl ?_
    refine J_wid (k' := k + 4) (n' := n + 24) (show k + 1 + 0 + 0 ≤ k + 4 by omega) (show n + 6 + 0 + 0 ≤ n + 24 by omega) ?_
    exact kk z9 M2 f9 g q3
  · refine J_aload_n hC dL_law_2804 5 rfl rfl ?_
    refine J_iconst (v := nI 0) hC dL_law_2805 rfl ?_
    refine J_lald (i := 0) (v := f9 0) hC dL_law_2806 0 rfl (by decide) (by decide) rfl ?_
    refine J_iload hC dL_law_2807 0 rfl ?_
    refine J_i2l (v := r2.toInt64) hC dL_law_2809 rfl ?_
    refine J_lcmp hC dL_law_2810 ?_
    refine J_topi (show lg_cmp (f9 0) r2.toInt64 = 0 from by rw [q2 c9]; exact lg_cmp_self _) ?_
    refine J_if_eq (tgt := 2816) hC dL_law_2811 (by decide) (fun _ => ?_) (fun c8 => absurd rfl c8)
    refine J_goto (tgt := 2975) hC dL_law_2816 (by decide) ?_
    refine J_lv (lv' := lvL b u m ol od c) [2, 3, 4, 5, 6, 7] rfl ?_
    refine J_wid (k' := k + 4) (n' := n + 24) (show k + 1 + 0 + 0 ≤ k + 4 by omega) (show n + 6 + 0 + 0 ≤ n + 24 by omega) ?_
    exact kk z9 M2 f9 g q3

set_option maxRecDepth 100000 in
set_option maxHeartbeats 4000000 in
theorem k_save {x : JX} {G : gT} {w0 : Cond} {b L : Nat} {xs : Nat → Int32} (hX : LX x G w0 b L xs) {ol od : Nat} {u : Nat → Nat → Nat} {m : Nat → Nat} {z : OS} {M : CT} {f : Nat → Int64} {g : Nat → UInt64} {c k n : Nat} (hp : 6 * c + 6 ≤ L) (h : REL c z M) (hk : k ≤ 600000) (hn : n ≤ 7200000) (kk : LK x G b ol od u m c k n) : J x G (LW G ol od u m z M f g) k n (lvL b u m ol od c) [] 2819 := by
  obtain ⟨hC, hst, hxT, hxN, hX, hbl, hbA, hL⟩ := hX
  have hc : c ≤ 600 := by omega
  refine J_aload_n hC dL_law_2819 1 rfl rfl ?_
  refine J_aload_n hC dL_law_2820 0 rfl rfl ?_
  refine J_iload hC dL_law_2821 5 rfl ?_
  refine J_iconst (v := nI 1) hC dL_law_2823 rfl ?_
  refine J_iadd (v := nI (6 * c + 1)) hC dL_law_2824 (nI_add _ _) ?_
  refine J_sald (v := xs (6 * c + 1)) hC hX hbl hbA dL_law_2825 (by omega) (by omega) rfl ?_
  refine J_aload_n hC dL_law_2826 3 rfl rfl ?_
  refine J_callW hC hxT hxN dL_law_2827 wl_L_349 yw_save (lw_i (u := u) (m := m) (z := z) (z1 := fun (w : Nat) => zSv z w) (z2 := fun (_ : Unit) => z) (w_save (jl x) G (ofW G u z) (u 4 0) ol _ (of_0 G u z) (xs (6 * c + 1)) f (b_save (jl x) G u z (xs (6 * c + 1))  hst) (fun _ _ => rfl))) rfl rfl ⟨Nat.le_of_ble_eq_true rfl, Nat.le_of_ble_eq_true rfl⟩ (Nat.le_of_ble_eq_true rfl) (show k + 1 ≤ 601024 by omega) (show n + 6 ≤ 7293034 by omega) (fun r v hv => ?_)
  obtain ⟨z9, hz9⟩ : ∃ q, q = zW (fun (w : Nat) => zSv z w) (fun (_ : Unit) => z) v := ⟨_, rfl⟩
  obtain ⟨f9, hf9⟩ : ∃ q, q = fW f v := ⟨_, rfl⟩
  refine J_wq (show _ = LW G ol od u m z9 M f9 g from by rw [hz9, hf9]) ?_
  refine J_istore hC [(6, .int r), (0, .ref b), (1, .ref (u 4 0)), (2, .ref (m 0)), (3, .ref ol), (4, .ref od), (5, .int (nI (6 * c)))] dL_law_2830 (by decide) rfl ?_
  refine J_aload_n hC dL_law_2832 3 rfl rfl ?_
  refine J_aload_n hC dL_law_2833 1 rfl rfl ?_
  refine J_iload hC dL_law_2834 6 rfl ?_
  refine J_iconst (v := nI 1) hC dL_law_2836 rfl ?_
  refine J_iadd (v := nI (6 * c + 1)) hC dL_law_2837 (nI_add _ _) ?_
  refine J_sald (v := xs (6 * c + 1)) hC hX hbl hbA dL_law_2838 (by omega) (by omega) rfl ?_
  obtain ⟨fs2, hm2⟩ := lw_m G ol od u m z9 M f9 g
  refine J_callVi hC dL_law_2839 wl_L_351 yi_X11_save (lm_i (c_X11_save _ G m M (xs (6 * c + 1)))) rfl rfl 275 11 hm2 rfl ⟨Nat.le_of_ble_eq_true rfl, Nat.le_of_ble_eq_true rfl⟩ (Nat.le_of_ble_eq_true rfl) (show k + 1 + 0 ≤ 601024 by omega) (show n + 6 + 0 ≤ 7293034 by omega) (fun r2 M2 h2 => ?_)
  obtain ⟨q1, q2, q3⟩ := eq_save h hc (f := f) (xs (6 * c + 1)) hv h2
  rw [← hz9] at q3
  rw [← hf9] at q2
  refine J_istore hC [(7, .int r2), (6, .int r), (0, .ref b), (1, .ref (u 4 0)), (2, .ref (m 0)), (3, .ref ol), (4, .ref od), (5, .int (nI (6 * c)))] dL_law_2842 (by decide) rfl ?_
  refine J_aload_n hC dL_law_2844 4 rfl rfl ?_
  obtain ⟨fs3, hm3⟩ := lw_m G ol od u m z9 M2 f9 g
  refine J_callVi hC dL_law_2845 wl_L_149 yi_X11_thrown (lm_i (c_X11_thrown _ G m M2)) rfl rfl 275 11 hm3 rfl ⟨Nat.le_of_ble_eq_true rfl, Nat.le_of_ble_eq_true rfl⟩ (Nat.le_of_ble_eq_true rfl) (show k + 1 + 0 + 0 ≤ 601024 by omega) (show n + 6 + 0 + 0 ≤ 7293034 by omega) (fun r3 u3 h3 => ?_)
  refine J_wq (show _ = LW G ol od u m z9 M2 f9 g from rfl) ?_
  subst h3
  refine J_iload hC dL_law_2848 1 rfl ?_
  refine J_ic_eq (tgt := 2855) hC dL_law_2850 (by decide) (fun _ => ?_) (fun c9 => absurd q1 c9)
  refine J_iload hC dL_law_2855 1 rfl ?_
  refine J_if_ne (tgt := 2872) hC dL_law_2857 (by decide) (fun c9 => ?_) (fun c9 => ?_)
  · refine J_goto (tgt := 2975) hC dL_law_2872 (by decide) ?_
    refine J_lv (lv' := lvL b u m ol od c) [2, 3, 4, 5, 6, 7] rfl ?_
    refine J_wid (k' := k + 4) (n' := n + 24) (show k + 1 + 0 + 0 ≤ k + 4 by omega) (show n + 6 + 0 + 0 ≤ n + 24 by omega) ?_
    exact kk z9 M2 f9 g q3
  · refine J_aload_n hC dL_law_2860 5 rfl rfl ?_
    refine J_iconst (v := nI 0) hC dL_law_2861 rfl ?_
    refine J_lald (i := 0) (v := f9 0) hC dL_law_2862 0 rfl (by decide) (by decide) rfl ?_
    refine J_iload hC dL_law_2863 0 rfl ?_
    refine J_i2l (v := r2.toInt64) hC dL_law_2865 rfl ?_
    refine J_lcmp hC dL_law_2866 ?_
    refine J_topi (show lg_cmp (f9 0) r2.toInt64 = 0 from by rw [q2 c9]; exact lg_cmp_self _) ?_
    refine J_if_eq (tgt := 2872) hC dL_law_2867 (by decide) (fun _ => ?_) (fun c8 => absurd rfl c8)
    refine J_goto (tgt := 2975) hC dL_law_2872 (by decide) ?_
    refine J_lv (lv' := lvL b u m ol od c) [2, 3, 4, 5, 6, 7] rfl ?_
    refine J_wid (k' := k + 4) (n' := n + 24) (show k + 1 + 0 + 0 ≤ k + 4 by omega) (show n + 6 + 0 + 0 ≤ n + 24 by omega) ?_
    exact kk z9 M2 f9 g q3

set_option maxRecDepth 100000 in
set_option maxHeartbeats 4000000 in
theorem k_restore {x : JX} {G : gT} {w0 : Cond} {b L : Nat} {xs : Nat → Int32} (hX : LX x G w0 b L xs) {ol od : Nat} {u : Nat → Nat → Nat} {m : Nat → Nat} {z : OS} {M : CT} {f : Nat → Int64} {g : Nat → UInt64} {c k n : Nat} (hp : 6 * c + 6 ≤ L) (h : REL c z M) (hk : k ≤ 600000) (hn : n ≤ 7200000) (kk : LK x G b ol od u m c k n) : J x G (LW G ol od u m z M f g) k n (lvL b u m ol od c) [] 2875 := by
  obtain ⟨hC, hst, hxT, hxN, hX, hbl, hbA, hL⟩ := hX
  have hc : c ≤ 600 := by omega
  refine J_aload_n hC dL_law_2875 1 rfl rfl ?_
  refine J_aload_n hC dL_law_2876 0 rfl rfl ?_
  refine J_iload hC dL_law_2877 5 rfl ?_
  refine J_iconst (v := nI 1) hC dL_law_2879 rfl ?_
  refine J_iadd (v := nI (6 * c + 1)) hC dL_law_2880 (nI_add _ _) ?_
  refine J_sald (v := xs (6 * c + 1)) hC hX hbl hbA dL_law_2881 (by omega) (by omega) rfl ?_
  refine J_aload_n hC dL_law_2882 3 rfl rfl ?_
  refine J_callW hC hxT hxN dL_law_2883 wl_L_352 yw_restore (lw_i (u := u) (m := m) (z := z) (z1 := fun (w : Nat) => zR z (zL z w)) (z2 := fun (_ : Nat × Nat) => z) (w_restore (jl x) G (ofW G u z) (u 4 0) ol _ (of_0 G u z) (xs (6 * c + 1)) f (b_restore (jl x) G u z (xs (6 * c + 1)) h.hn h.hk hst) (fun u9 hp9 => by
    rcases hp9 with ⟨e8, _⟩ | ⟨e8, _⟩
    · exact Or.inl (if_pos e8)
    · exact Or.inr (if_neg (by rw [e8]; decide))))) rfl rfl ⟨Nat.le_of_ble_eq_true rfl, Nat.le_of_ble_eq_true rfl⟩ (Nat.le_of_ble_eq_true rfl) (show k + 2 ≤ 601024 by omega) (show n + 12 ≤ 7293034 by omega) (fun r v hv => ?_)
  obtain ⟨z9, hz9⟩ : ∃ q, q = zW (fun (w : Nat) => zR z (zL z w)) (fun (_ : Nat × Nat) => z) v := ⟨_, rfl⟩
  obtain ⟨f9, hf9⟩ : ∃ q, q = fW f v := ⟨_, rfl⟩
  refine J_wq (show _ = LW G ol od u m z9 M f9 g from by rw [hz9, hf9]) ?_
  refine J_istore hC [(6, .int r), (0, .ref b), (1, .ref (u 4 0)), (2, .ref (m 0)), (3, .ref ol), (4, .ref od), (5, .int (nI (6 * c)))] dL_law_2886 (by decide) rfl ?_
  refine J_aload_n hC dL_law_2888 3 rfl rfl ?_
  refine J_aload_n hC dL_law_2889 1 rfl rfl ?_
  refine J_iload hC dL_law_2890 6 rfl ?_
  refine J_iconst (v := nI 1) hC dL_law_2892 rfl ?_
  refine J_iadd (v := nI (6 * c + 1)) hC dL_law_2893 (nI_add _ _) ?_
  refine J_sald (v := xs (6 * c + 1)) hC hX hbl hbA dL_law_2894 (by omega) (by omega) rfl ?_
  obtain ⟨fs2, hm2⟩ := lw_m G ol od u m z9 M f9 g
  refine J_callVi hC dL_law_2895 wl_L_354 yi_X11_restore (lm_i (c_X11_restore _ G m M (cl (M 8 0)) (cl (M 8 1)) (xs (6 * c + 1)) h.un.1 h.un.2 h.u0.1 h.u0.2)) rfl rfl 275 11 hm2 rfl ⟨Nat.le_of_ble_eq_true rfl, Nat.le_of_ble_eq_true rfl⟩ (Nat.le_of_ble_eq_true rfl) (show k + 2 + 0 ≤ 601024 by omega) (show n + 12 + 0 ≤ 7293034 by omega) (fun r2 M2 h2 => ?_)
  obtain ⟨q1, q2, q3⟩ := eq_restore h hc (f := f) (xs (6 * c + 1)) hv h2
  rw [← hz9] at q3
  rw [← hf9] at q2
  refine J_istore hC [(7, .int r2), (6, .int r), (0, .ref b), (1, .ref (u 4 0)), (2, .ref (m 0)), (3, .ref ol), (4, .ref od), (5, .int (nI (6 * c)))] dL_law_2898 (by decide) rfl ?_
  refine J_aload_n hC dL_law_2900 4 rfl rfl ?_
  obtain ⟨fs3, hm3⟩ := lw_m G ol od u m z9 M2 f9 g
  refine J_callVi hC dL_law_2901 wl_L_149 yi_X11_thrown (lm_i (c_X11_thrown _ G m M2)) rfl rfl 275 11 hm3 rfl ⟨Nat.le_of_ble_eq_true rfl, Nat.le_of_ble_eq_true rfl⟩ (Nat.le_of_ble_eq_true rfl) (show k + 2 + 0 + 0 ≤ 601024 by omega) (show n + 12 + 0 + 0 ≤ 7293034 by omega) (fun r3 u3 h3 => ?_)
  refine J_wq (show _ = LW G ol od u m z9 M2 f9 g from rfl) ?_
  subst h3
  refine J_iload hC dL_law_2904 1 rfl ?_
  refine J_ic_eq (tgt := 2911) hC dL_law_2906 (by decide) (fun _ => ?_) (fun c9 => absurd q1 c9)
  refine J_iload hC dL_law_2911 1 rfl ?_
  refine J_if_ne (tgt := 2928) hC dL_law_2913 (by decide) (fun c9 => ?_) (fun c9 => ?_)
  · refine J_goto (tgt := 2975) hC dL_law_2928 (by decide) ?_
    refine J_lv (lv' := lvL b u m ol od c) [2, 3, 4, 5, 6, 7] rfl ?_
    refine J_wid (k' := k + 4) (n' := n + 24) (show k + 2 + 0 + 0 ≤ k + 4 by omega) (show n + 12 + 0 + 0 ≤ n + 24 by omega) ?_
    exact kk z9 M2 f9 g q3
  · refine J_aload_n hC dL_law_2916 5 rfl rfl ?_
    refine J_iconst (v := nI 0) hC dL_law_2917 rfl ?_
    refine J_lald (i := 0) (v := f9 0) hC dL_law_2918 0 rfl (by decide) (by decide) rfl ?_
    refine J_iload hC dL_law_2919 0 rfl ?_
    refine J_i2l (v := r2.toInt64) hC dL_law_2921 rfl ?_
    refine J_lcmp hC dL_law_2922 ?_
    refine J_topi (show lg_cmp (f9 0) r2.toInt64 = 0 from by rw [q2 c9]; exact lg_cmp_self _) ?_
    refine J_if_eq (tgt := 2928) hC dL_law_2923 (by decide) (fun _ => ?_) (fun c8 => absurd rfl c8)
    refine J_goto (tgt := 2975) hC dL_law_2928 (by decide) ?_
    refine J_lv (lv' := lvL b u m ol od c) [2, 3, 4, 5, 6, 7] rfl ?_
    refine J_wid (k' := k + 4) (n' := n + 24) (show k + 2 + 0 + 0 ≤ k + 4 by omega) (show n + 12 + 0 + 0 ≤ n + 24 by omega) ?_
    exact kk z9 M2 f9 g q3

set_option maxRecDepth 100000 in
set_option maxHeartbeats 4000000 in
theorem k_undo {x : JX} {G : gT} {w0 : Cond} {b L : Nat} {xs : Nat → Int32} (hX : LX x G w0 b L xs) {ol od : Nat} {u : Nat → Nat → Nat} {m : Nat → Nat} {z : OS} {M : CT} {f : Nat → Int64} {g : Nat → UInt64} {c k n : Nat} (hp : 6 * c + 6 ≤ L) (h : REL c z M) (hk : k ≤ 600000) (hn : n ≤ 7200000) (kk : LK x G b ol od u m c k n) : J x G (LW G ol od u m z M f g) k n (lvL b u m ol od c) [] 2931 := by
  obtain ⟨hC, hst, hxT, hxN, hX, hbl, hbA, hL⟩ := hX
  have hc : c ≤ 600 := by omega
  refine J_aload_n hC dL_law_2931 1 rfl rfl ?_
  refine J_aload_n hC dL_law_2932 3 rfl rfl ?_
  refine J_callW hC hxT hxN dL_law_2933 wl_L_355 yw_undo (lw_i (u := u) (m := m) (z := z) (z1 := fun (w : Unit) => zUn z) (z2 := fun (_ : Unit) => z) (w_undo (jl x) G (ofW G u z) (u 4 0) ol _ (of_0 G u z)  f (b_undo (jl x) G u z  h.hn h.hk hst) (fun _ _ => rfl))) rfl rfl ⟨Nat.le_of_ble_eq_true rfl, Nat.le_of_ble_eq_true rfl⟩ (Nat.le_of_ble_eq_true rfl) (show k + 1 ≤ 601024 by omega) (show n + 6 ≤ 7293034 by omega) (fun r v hv => ?_)
  obtain ⟨z9, hz9⟩ : ∃ q, q = zW (fun (w : Unit) => zUn z) (fun (_ : Unit) => z) v := ⟨_, rfl⟩
  obtain ⟨f9, hf9⟩ : ∃ q, q = fW f v := ⟨_, rfl⟩
  refine J_wq (show _ = LW G ol od u m z9 M f9 g from by rw [hz9, hf9]) ?_
  refine J_istore hC [(6, .int r), (0, .ref b), (1, .ref (u 4 0)), (2, .ref (m 0)), (3, .ref ol), (4, .ref od), (5, .int (nI (6 * c)))] dL_law_2936 (by decide) rfl ?_
  refine J_aload_n hC dL_law_2938 3 rfl rfl ?_
  obtain ⟨fs2, hm2⟩ := lw_m G ol od u m z9 M f9 g
  refine J_callVi hC dL_law_2939 wl_L_357 yi_X11_undo (lm_i (c_X11_undo _ G m M (cl (M 8 0)) (cl (M 8 1)) h.un.1 h.un.2 h.u0.1 h.u0.2)) rfl rfl 275 11 hm2 rfl ⟨Nat.le_of_ble_eq_true rfl, Nat.le_of_ble_eq_true rfl⟩ (Nat.le_of_ble_eq_true rfl) (show k + 1 + 0 ≤ 601024 by omega) (show n + 6 + 0 ≤ 7293034 by omega) (fun r2 M2 h2 => ?_)
  obtain ⟨q1, q2, q3⟩ := eq_undo h hc (f := f)  hv h2
  rw [← hz9] at q3
  rw [← hf9] at q2
  refine J_istore hC [(7, .int r2), (6, .int r), (0, .ref b), (1, .ref (u 4 0)), (2, .ref (m 0)), (3, .ref ol), (4, .ref od), (5, .int (nI (6 * c)))] dL_law_2942 (by decide) rfl ?_
  refine J_aload_n hC dL_law_2944 4 rfl rfl ?_
  obtain ⟨fs3, hm3⟩ := lw_m G ol od u m z9 M2 f9 g
  refine J_callVi hC dL_law_2945 wl_L_149 yi_X11_thrown (lm_i (c_X11_thrown _ G m M2)) rfl rfl 275 11 hm3 rfl ⟨Nat.le_of_ble_eq_true rfl, Nat.le_of_ble_eq_true rfl⟩ (Nat.le_of_ble_eq_true rfl) (show k + 1 + 0 + 0 ≤ 601024 by omega) (show n + 6 + 0 + 0 ≤ 7293034 by omega) (fun r3 u3 h3 => ?_)
  refine J_wq (show _ = LW G ol od u m z9 M2 f9 g from rfl) ?_
  subst h3
  refine J_iload hC dL_law_2948 1 rfl ?_
  refine J_ic_eq (tgt := 2955) hC dL_law_2950 (by decide) (fun _ => ?_) (fun c9 => absurd q1 c9)
  refine J_iload hC dL_law_2955 1 rfl ?_
  refine J_if_ne (tgt := 2972) hC dL_law_2957 (by decide) (fun c9 => ?_) (fun c9 => ?_)
  · refine J_goto (tgt := 2975) hC dL_law_2972 (by decide) ?_
    refine J_lv (lv' := lvL b u m ol od c) [2, 3, 4, 5, 6, 7] rfl ?_
    refine J_wid (k' := k + 4) (n' := n + 24) (show k + 1 + 0 + 0 ≤ k + 4 by omega) (show n + 6 + 0 + 0 ≤ n + 24 by omega) ?_
    exact kk z9 M2 f9 g q3
  · refine J_aload_n hC dL_law_2960 5 rfl rfl ?_
    refine J_iconst (v := nI 0) hC dL_law_2961 rfl ?_
    refine J_lald (i := 0) (v := f9 0) hC dL_law_2962 0 rfl (by decide) (by decide) rfl ?_
    refine J_iload hC dL_law_2963 0 rfl ?_
    refine J_i2l (v := r2.toInt64) hC dL_law_2965 rfl ?_
    refine J_lcmp hC dL_law_2966 ?_
    refine J_topi (show lg_cmp (f9 0) r2.toInt64 = 0 from by rw [q2 c9]; exact lg_cmp_self _) ?_
    refine J_if_eq (tgt := 2972) hC dL_law_2967 (by decide) (fun _ => ?_) (fun c8 => absurd rfl c8)
    refine J_goto (tgt := 2975) hC dL_law_2972 (by decide) ?_
    refine J_lv (lv' := lvL b u m ol od c) [2, 3, 4, 5, 6, 7] rfl ?_
    refine J_wid (k' := k + 4) (n' := n + 24) (show k + 1 + 0 + 0 ≤ k + 4 by omega) (show n + 6 + 0 + 0 ≤ n + 24 by omega) ?_
    exact kk z9 M2 f9 g q3

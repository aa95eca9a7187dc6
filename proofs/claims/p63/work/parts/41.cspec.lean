/-! THE PARSER OF THE CLASS, PURE (over the shared functions of part 27), AND ITS WORLDS -/
def kC (k : Nat) : Int32 := if k = 3 then 1 else if k = 1 then 3 else nI k
def q_dw (f : RT) (j : Nat) (v : Int32) : Int32 := if 10 * v + f j - 48 < 1000000 then 10 * v + f j - 48 else 1000000
def tW (f : RT) (il e : Nat) : Int32 := if tK f il e = 2 then fo (q_dw f) (tS f il e) (tE f il e - tS f il e) 0 else 0
/-- the scanner's number is the present token's, where that is a number -/
def NU (f : RT) (il e : Nat) (v : Int32) : Prop := tK f il e = 2 → v = tW f il e
def scR (G : gT) (s : Nat) (b : Nat → Nat) (q : RT × Nat) (k st en v : Int32) : va_W := (s, .inr (6, [.ref (b 0), .int k, .int st, .int en, .int v])) :: byQ G b q
def scW (G : gT) (s : Nat) (b : Nat → Nat) (f : RT) (q : RT × Nat) (e : Nat) (v : Int32) : va_W := scR G s b q (kC (tK f q.2 e)) (nI (tS f q.2 e)) (nI (tE f q.2 e)) v
def prW (G : gT) (p s : Nat) (b a : Nat → Nat) (f : RT) (q : RT × Nat) (t : PS CT) (v : Int32) : va_W := (p, .inr (5, [.ref s, .ref (a 0), .int t.2.2.1, .int t.2.2.2])) :: (scW G s b f q t.2.1 v ++ stW G a t.1)
section LIFTS
variable {S : Type} {l : Launch} {y : MethodName} {cc : ByteArray} {maxL : Nat} {ret : Option FieldType} {rm : Room} {av : List Value} {G : gT} {W : va_W}
theorem app_i (V : va_W) {post : Int32 → S → Prop} {F : S → va_W} (h : MI l y cc maxL ret rm av G W post F) : MI l y cc maxL ret rm av G (W ++ V) post (fun u => F u ++ V) := fr_i h (List.Perm.refl _) (fun _ => List.Perm.refl _)
theorem app_v (V : va_W) {post : S → Prop} {F : S → va_W} (h : MV l y cc maxL rm av G W post F) : MV l y cc maxL rm av G (W ++ V) post (fun u => F u ++ V) := fr_v h (List.Perm.refl _) (fun _ => List.Perm.refl _)
theorem appr_i (V : va_W) {post : Int32 → S → Prop} {F : S → va_W} (h : MI l y cc maxL ret rm av G W post F) : MI l y cc maxL ret rm av G (V ++ W) post (fun u => V ++ F u) := fr_i h List.perm_append_comm (fun _ => List.perm_append_comm)
theorem appr_v (V : va_W) {post : S → Prop} {F : S → va_W} (h : MV l y cc maxL rm av G W post F) : MV l y cc maxL rm av G (V ++ W) post (fun u => V ++ F u) := fr_v h List.perm_append_comm (fun _ => List.perm_append_comm)
end LIFTS

section CSP
variable (f : RT) (il : Nat) (t : PS CT)
def c_nm : Int32 := b_nm f il (tS f il t.2.1) (tE f il t.2.1)
def c_num (lo hi : Int32) : PS CT := p_lkG f il (tW f il (p_nxt f il t).2.1) lo hi (p_nxt f il t)
def c_sem : PS CT := p_sc f il (p_nxt f il t)
def c_wd : PS CT := p_wd f il (p_nxt f il t)
def c_nn2 : PS CT := p_chk f il (¬ c_nm f il (c_wd f il t) = 0) 2 (c_wd f il t)
abbrev c_free (S : CT) (nm : Int32) : Prop := s_num (S 0) nm (vcO S) = -1 ∧ s_num (S 3) nm (fcO S) = -1
def c_nn : PS CT := p_chk f il (c_free (c_nn2 f il t).1 (c_nm f il (c_nn2 f il t))) 3 (c_nn2 f il t)
def c_kvV : Int32 := s_num (t.1 0) (c_nm f il t) (vcO t.1)
def c_kv : PS CT := p_chk f il (¬ c_kvV f il (c_wd f il t) = -1) 4 (c_wd f il t)
def c_whV : Int32 := if tIs f il t.2.1 5 then 0 else if tIs f il t.2.1 6 then 1 else if tIs f il t.2.1 7 then 2 else -1
-- village
def c_v1 : PS CT := p_chk f il (t.1 16 9 < 6) 5 t
def c_v2 : PS CT := c_nn f il (c_v1 f il t)
def c_v3 : PS CT := c_num f il (c_v2 f il t) 1 99
def c_v4 : PS CT := c_num f il (c_v3 f il t) 0 100
def c_v5 : PS CT := c_sem f il (c_v4 f il t)
def c_rv : PS CT := if (c_v5 f il t).2.2.1 = 0 then (s_vadd (c_v5 f il t).1 (c_nm f il (c_v2 f il t)) (tW f il (c_v3 f il t).2.1) (tW f il (c_v4 f il t).2.1) (vcO (c_v5 f il t).1), (c_v5 f il t).2) else c_v5 f il t
-- fair
def c_f1 : PS CT := p_chk f il (t.1 16 10 < 6) 5 t
def c_f2 : PS CT := c_nn f il (c_f1 f il t)
def c_f3 : PS CT := c_kv f il (c_f2 f il t)
def c_f4 : PS CT := c_num f il (c_f3 f il t) 1 12
def c_f5 : PS CT := c_num f il (c_f4 f il t) 1 99
def c_f6 : PS CT := c_num f il (c_f5 f il t) 1 20
def c_f7 : PS CT := c_sem f il (c_f6 f il t)
def c_rf : PS CT := if (c_f7 f il t).2.2.1 = 0 then (s_fadd (c_f7 f il t).1 (c_nm f il (c_f2 f il t)) (c_kvV f il (c_f3 f il t)) (tW f il (c_f4 f il t).2.1) (tW f il (c_f5 f il t).2.1) (tW f il (c_f6 f il t).2.1) (fcO (c_f7 f il t).1), (c_f7 f il t).2) else c_f7 f il t
-- say
def c_s1 : PS CT := c_kv f il t
def c_s2 : PS CT := c_num f il (c_s1 f il t) 0 9999
def c_s3 : PS CT := p_nxt f il (c_s2 f il t)
def c_s4 : PS CT := p_chk f il (¬ c_whV f il (c_s3 f il t) = -1) 1 (c_s3 f il t)
def c_s5 : PS CT := c_sem f il (c_s4 f il t)
def c_s6 : PS CT := p_chk f il (s_refusal (c_s5 f il t).1 (c_kvV f il (c_s1 f il t)) (tW f il (c_s2 f il t).2.1) (bcO (c_s5 f il t).1) = 0) 6 (c_s5 f il t)
def c_rs : PS CT := if (c_s6 f il t).2.2.1 = 0 then (s_bookAdd (c_s6 f il t).1 (c_kvV f il (c_s1 f il t)) (tW f il (c_s2 f il t).2.1) (c_whV f il (c_s3 f il t)) (bcO (c_s6 f il t).1), (c_s6 f il t).2) else c_s6 f il t
-- retract
def c_r1 : PS CT := p_tk f il (p_nxt f il t)
def c_r2 : PS CT := p_chk f il (¬ tW f il (c_r1 f il t).2.1 < 0 ∧ tW f il (c_r1 f il t).2.1 < nI ((bcO (c_r1 f il t).1 + 4 - 1) / 4)) 4 (c_r1 f il t)
def c_pays (S : CT) (pg : Int32) : Prop := s_canPay S (cl pg) (bcO S)
def c_r3 : PS CT := p_chk f il (¬ (c_r2 f il t).1 16 1 < s_paidForPage (c_r2 f il t).1 (cl (tW f il (c_r1 f il t).2.1)) (bcO (c_r2 f il t).1)) 6 (c_r2 f il t)
def c_r4 : PS CT := c_sem f il (c_r3 f il t)
def c_rr : PS CT := if (c_r4 f il t).2.2.1 = 0 then (s_takeBack (c_r4 f il t).1 (cl (tW f il (c_r1 f il t).2.1)) (bcO (c_r4 f il t).1) (vcO (c_r4 f il t).1), (c_r4 f il t).2) else c_r4 f il t
-- pass
def c_p1 : PS CT := c_num f il t 0 200
def c_p2 : PS CT := c_sem f il (c_p1 f il t)
def c_rp : PS CT := if (c_p2 f il t).2.2.1 = 0 then (s_days (cl (tW f il (c_p1 f il t).2.1)) (c_p2 f il t).1, (c_p2 f il t).2) else c_p2 f il t
def c_st : PS CT := if tIs f il t.2.1 2 then c_rv f il t else if tIs f il t.2.1 3 then c_rf f il t else if tIs f il t.2.1 4 then c_rs f il t else if tIs f il t.2.1 8 then c_rr f il t else if tIs f il t.2.1 9 then c_rp f il t else p_chk f il False 1 t
-- almanac
def c_a0 (S : CT) : PS CT := p_chk f il (tIs f il 0 1) 1 (S, 0, 0, -1)
def c_ss : PS CT := if t.2.2.1 = 0 then (us t.1 16 11 (tW f il t.2.1), t.2) else t
def c_so (i : Nat) : PS CT := if t.2.2.1 = 0 then (us t.1 8 i (tW f il t.2.1), t.2) else t
end CSP
def c_a1 (f : RT) (il : Nat) (S : CT) : PS CT := c_ss f il (c_num f il (c_a0 f il S) 0 1023)
def c_a2 (f : RT) (il : Nat) (S : CT) : PS CT := c_so f il (c_num f il (c_a1 f il S) 0 20) 0
def c_a3 (f : RT) (il : Nat) (S : CT) : PS CT := c_so f il (c_num f il (c_a2 f il S) 0 20) 1
def c_a4 (f : RT) (il : Nat) (S : CT) : PS CT := c_so f il (c_num f il (c_a3 f il S) 0 20) 2
def c_a5 (f : RT) (il : Nat) (S : CT) : PS CT := p_chk f il (¬ s_sumO (c_a4 f il S).1 = 0) 2 (c_a4 f il S)
def c_al (f : RT) (il : Nat) (S : CT) : PS CT := c_sem f il (c_a5 f il S)
def c_lp (f : RT) (il : Nat) : Nat → PS CT → PS CT
  | 0, t => t
  | n + 1, t => if t.2.2.1 = 0 ∧ ¬ tK f il t.2.1 = 0 then c_lp f il n (p_nxt f il (c_st f il t)) else t
def c_txt (f : RT) (il : Nat) (S : CT) : PS CT := c_lp f il 600 (p_nxt f il (c_al f il S))
/-- a State's counts are in their bounds -/
def CI (S : CT) : Prop := (S 16 12 = nI (bcO S) ∧ bcO S ≤ 30) ∧ (S 16 9 = nI (vcO S) ∧ vcO S ≤ 6) ∧ (S 16 10 = nI (fcO S) ∧ fcO S ≤ 6) ∧ (S 16 13 = nI (mcO S) ∧ mcO S ≤ 10)
theorem CI_of {S : CT} {bc vc fc mc : Nat} (h1 : S 16 12 = nI bc) (b1 : bc ≤ 30) (h2 : S 16 9 = nI vc) (b2 : vc ≤ 6) (h3 : S 16 10 = nI fc) (b3 : fc ≤ 6) (h4 : S 16 13 = nI mc) (b4 : mc ≤ 10) : CI S := by
  unfold CI
  rw [bcO_eq h1 b1, vcO_eq h2 b2, fcO_eq h3 b3, mcO_eq h4 b4]
  exact ⟨⟨h1, b1⟩, ⟨h2, b2⟩, ⟨h3, b3⟩, ⟨h4, b4⟩⟩
section CSL
variable {f : RT} {il : Nat} {t : PS CT}
theorem p_lkG_z {v lo hi : Int32} (h : ¬ t.2.2.1 = 0) : p_lkG f il v lo hi t = t := by rw [p_lkG, p_tk, p_chk_z h, p_chk_z h]
theorem c_num_z {lo hi : Int32} (h : ¬ t.2.2.1 = 0) : c_num f il t lo hi = t := by rw [c_num, p_nxt_z h, p_lkG_z h]
theorem c_sem_z (h : ¬ t.2.2.1 = 0) : c_sem f il t = t := by rw [c_sem, p_nxt_z h, p_sc, p_chk_z h]
theorem c_wd_z (h : ¬ t.2.2.1 = 0) : c_wd f il t = t := by rw [c_wd, p_nxt_z h, p_wd, p_chk_z h]
theorem c_nn_z (h : ¬ t.2.2.1 = 0) : c_nn f il t = t := by
  have e : c_nn2 f il t = t := by rw [c_nn2, c_wd_z h, p_chk_z h]
  rw [c_nn, e, p_chk_z h]
theorem c_kv_z (h : ¬ t.2.2.1 = 0) : c_kv f il t = t := by rw [c_kv, c_wd_z h, p_chk_z h]
theorem p_lkG_g {v lo hi : Int32} : (p_lkG f il v lo hi t).1 = t.1 := by rw [p_lkG, p_chk_g, p_tk, p_chk_g]
theorem c_num_g {lo hi : Int32} : (c_num f il t lo hi).1 = t.1 := by rw [c_num, p_lkG_g, p_nxt_g]
theorem c_sem_g : (c_sem f il t).1 = t.1 := by rw [c_sem, p_sc, p_chk_g, p_nxt_g]
theorem c_wd_g : (c_wd f il t).1 = t.1 := by rw [c_wd, p_wd, p_chk_g, p_nxt_g]
theorem c_nn_g : (c_nn f il t).1 = t.1 := by rw [c_nn, p_chk_g, c_nn2, p_chk_g, c_wd_g]
theorem c_kv_g : (c_kv f il t).1 = t.1 := by rw [c_kv, p_chk_g, c_wd_g]
theorem PEc_lkG {v lo hi : Int32} (h : t.2.1 ≤ il) : (p_lkG f il v lo hi t).2.1 ≤ il := by rw [p_lkG, p_chk_e, p_tk, p_chk_e]; exact h
theorem PEc_num {lo hi : Int32} (h : t.2.1 ≤ il) : (c_num f il t lo hi).2.1 ≤ il := by rw [c_num]; exact PEc_lkG (PE_nxt h)
theorem PEc_sem (h : t.2.1 ≤ il) : (c_sem f il t).2.1 ≤ il := by rw [c_sem, p_sc, p_chk_e]; exact PE_nxt h
theorem PEc_wd (h : t.2.1 ≤ il) : (c_wd f il t).2.1 ≤ il := by rw [c_wd, p_wd, p_chk_e]; exact PE_nxt h
theorem PEc_nn (h : t.2.1 ≤ il) : (c_nn f il t).2.1 ≤ il := by rw [c_nn, p_chk_e, c_nn2, p_chk_e]; exact PEc_wd h
theorem PEc_kv (h : t.2.1 ≤ il) : (c_kv f il t).2.1 ≤ il := by rw [c_kv, p_chk_e]; exact PEc_wd h
end CSL
theorem kC_0 {k : Nat} (h : k ≤ 3) : kC k = 0 ↔ k = 0 := by
  rcases (show k = 0 ∨ k = 1 ∨ k = 2 ∨ k = 3 by omega) with rfl | rfl | rfl | rfl <;> decide
theorem kC_1 {k : Nat} (h : k ≤ 3) : kC k = 1 ↔ k = 3 := by
  rcases (show k = 0 ∨ k = 1 ∨ k = 2 ∨ k = 3 by omega) with rfl | rfl | rfl | rfl <;> decide
theorem kC_2 {k : Nat} (h : k ≤ 3) : kC k = 2 ↔ k = 2 := by
  rcases (show k = 0 ∨ k = 1 ∨ k = 2 ∨ k = 3 by omega) with rfl | rfl | rfl | rfl <;> decide
theorem kC_3 {k : Nat} (h : k ≤ 3) : kC k = 3 ↔ k = 1 := by
  rcases (show k = 0 ∨ k = 1 ∨ k = 2 ∨ k = 3 by omega) with rfl | rfl | rfl | rfl <;> decide

section LIFT2
variable {S : Type} {l : Launch} {y : MethodName} {cc : ByteArray} {maxL : Nat} {ret : Option FieldType} {rm : Room} {av : List Value} {G : gT} {W : va_W}
theorem cons_i {x} {post : Int32 → S → Prop} {F : S → va_W} (h : MI l y cc maxL ret rm av G W post F) : MI l y cc maxL ret rm av G (x :: W) post (fun u => x :: F u) := fr_i (wr := [x]) h (List.perm_append_singleton x W).symm (fun u => List.perm_append_singleton x (F u))
theorem cons_v {x} {post : S → Prop} {F : S → va_W} (h : MV l y cc maxL rm av G W post F) : MV l y cc maxL rm av G (x :: W) post (fun u => x :: F u) := fr_v (wr := [x]) h (List.perm_append_singleton x W).symm (fun u => List.perm_append_singleton x (F u))
end LIFT2


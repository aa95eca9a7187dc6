section
-- ===== PART A: goes FIRST, ahead of the names: the tables' words, and 'selects' of the private methods out of them =====
/-- a private method of a class that the tables say can be made, by its rows of tables_1 -/
def lw_okq (q : MethodName × Nat) : Prop := (q.1.cls ≠ "java/lang/invoke/MethodHandle" ∧ q.1.cls ≠ "java/lang/invoke/VarHandle") ∧ Cond.instantiable q.1.cls q.2 ∈ tables_1 ∧ Cond.privateMethod q.1 ∈ tables_1 ∧ Cond.instanceMethod q.1 ∈ tables_1
theorem lw_p0 : lw_okq (⟨"AlmanacOffice$Parser", "readAlmanac", "()Z"⟩, 4) := ⟨⟨by decide +kernel, by decide +kernel⟩, List.mem_of_getElem? (i := 329) (by decide +kernel), List.mem_of_getElem? (i := 380) (by decide +kernel), List.mem_of_getElem? (i := 381) (by decide +kernel)⟩
theorem lw_p1 : lw_okq (⟨"AlmanacOffice$Scanner", "isBlank", "(I)Z"⟩, 5) := ⟨⟨by decide +kernel, by decide +kernel⟩, List.mem_of_getElem? (i := 335) (by decide +kernel), List.mem_of_getElem? (i := 392) (by decide +kernel), List.mem_of_getElem? (i := 393) (by decide +kernel)⟩
theorem lw_p2 : lw_okq (⟨"AlmanacOffice$Scanner", "readDigits", "()V"⟩, 5) := ⟨⟨by decide +kernel, by decide +kernel⟩, List.mem_of_getElem? (i := 335) (by decide +kernel), List.mem_of_getElem? (i := 402) (by decide +kernel), List.mem_of_getElem? (i := 403) (by decide +kernel)⟩
theorem lw_p3 : lw_okq (⟨"AlmanacOffice$Parser", "fail", "(I)Z"⟩, 4) := ⟨⟨by decide +kernel, by decide +kernel⟩, List.mem_of_getElem? (i := 329) (by decide +kernel), List.mem_of_getElem? (i := 417) (by decide +kernel), List.mem_of_getElem? (i := 418) (by decide +kernel)⟩
theorem lw_p4 : lw_okq (⟨"AlmanacOffice$Parser", "readNumber", "(II)Z"⟩, 4) := ⟨⟨by decide +kernel, by decide +kernel⟩, List.mem_of_getElem? (i := 329) (by decide +kernel), List.mem_of_getElem? (i := 421) (by decide +kernel), List.mem_of_getElem? (i := 422) (by decide +kernel)⟩
theorem lw_p5 : lw_okq (⟨"AlmanacOffice$Parser", "readSemicolon", "()Z"⟩, 4) := ⟨⟨by decide +kernel, by decide +kernel⟩, List.mem_of_getElem? (i := 329) (by decide +kernel), List.mem_of_getElem? (i := 432) (by decide +kernel), List.mem_of_getElem? (i := 433) (by decide +kernel)⟩
theorem lw_p6 : lw_okq (⟨"AlmanacOffice$Parser", "readStatement", "()Z"⟩, 4) := ⟨⟨by decide +kernel, by decide +kernel⟩, List.mem_of_getElem? (i := 329) (by decide +kernel), List.mem_of_getElem? (i := 440) (by decide +kernel), List.mem_of_getElem? (i := 441) (by decide +kernel)⟩
theorem lw_p7 : lw_okq (⟨"AlmanacOffice$Parser", "readVillage", "()Z"⟩, 4) := ⟨⟨by decide +kernel, by decide +kernel⟩, List.mem_of_getElem? (i := 329) (by decide +kernel), List.mem_of_getElem? (i := 445) (by decide +kernel), List.mem_of_getElem? (i := 446) (by decide +kernel)⟩
theorem lw_p8 : lw_okq (⟨"AlmanacOffice$Parser", "readNewName", "()Z"⟩, 4) := ⟨⟨by decide +kernel, by decide +kernel⟩, List.mem_of_getElem? (i := 329) (by decide +kernel), List.mem_of_getElem? (i := 449) (by decide +kernel), List.mem_of_getElem? (i := 450) (by decide +kernel)⟩
theorem lw_p9 : lw_okq (⟨"AlmanacOffice$Parser", "readFair", "()Z"⟩, 4) := ⟨⟨by decide +kernel, by decide +kernel⟩, List.mem_of_getElem? (i := 329) (by decide +kernel), List.mem_of_getElem? (i := 480) (by decide +kernel), List.mem_of_getElem? (i := 481) (by decide +kernel)⟩
theorem lw_p10 : lw_okq (⟨"AlmanacOffice$Parser", "readKnownVillage", "()Z"⟩, 4) := ⟨⟨by decide +kernel, by decide +kernel⟩, List.mem_of_getElem? (i := 329) (by decide +kernel), List.mem_of_getElem? (i := 484) (by decide +kernel), List.mem_of_getElem? (i := 485) (by decide +kernel)⟩
theorem lw_p11 : lw_okq (⟨"AlmanacOffice$Parser", "readSay", "()Z"⟩, 4) := ⟨⟨by decide +kernel, by decide +kernel⟩, List.mem_of_getElem? (i := 329) (by decide +kernel), List.mem_of_getElem? (i := 493) (by decide +kernel), List.mem_of_getElem? (i := 494) (by decide +kernel)⟩
theorem lw_p12 : lw_okq (⟨"AlmanacOffice$Parser", "weatherOfToken", "()I"⟩, 4) := ⟨⟨by decide +kernel, by decide +kernel⟩, List.mem_of_getElem? (i := 329) (by decide +kernel), List.mem_of_getElem? (i := 497) (by decide +kernel), List.mem_of_getElem? (i := 498) (by decide +kernel)⟩
theorem lw_p13 : lw_okq (⟨"AlmanacOffice$Parser", "readRetract", "()Z"⟩, 4) := ⟨⟨by decide +kernel, by decide +kernel⟩, List.mem_of_getElem? (i := 329) (by decide +kernel), List.mem_of_getElem? (i := 518) (by decide +kernel), List.mem_of_getElem? (i := 519) (by decide +kernel)⟩
theorem lw_p14 : lw_okq (⟨"AlmanacOffice$State", "payBack", "(I)V"⟩, 14) := ⟨⟨by decide +kernel, by decide +kernel⟩, List.mem_of_getElem? (i := 57) (by decide +kernel), List.mem_of_getElem? (i := 568) (by decide +kernel), List.mem_of_getElem? (i := 569) (by decide +kernel)⟩
theorem lw_p15 : lw_okq (⟨"AlmanacOffice$Parser", "readPass", "()Z"⟩, 4) := ⟨⟨by decide +kernel, by decide +kernel⟩, List.mem_of_getElem? (i := 329) (by decide +kernel), List.mem_of_getElem? (i := 573) (by decide +kernel), List.mem_of_getElem? (i := 574) (by decide +kernel)⟩
def lw_privs_1 : List (MethodName × Nat) := [(⟨"AlmanacOffice$Parser", "readAlmanac", "()Z"⟩, 4), (⟨"AlmanacOffice$Scanner", "isBlank", "(I)Z"⟩, 5), (⟨"AlmanacOffice$Scanner", "readDigits", "()V"⟩, 5), (⟨"AlmanacOffice$Parser", "fail", "(I)Z"⟩, 4), (⟨"AlmanacOffice$Parser", "readNumber", "(II)Z"⟩, 4), (⟨"AlmanacOffice$Parser", "readSemicolon", "()Z"⟩, 4), (⟨"AlmanacOffice$Parser", "readStatement", "()Z"⟩, 4), (⟨"AlmanacOffice$Parser", "readVillage", "()Z"⟩, 4), (⟨"AlmanacOffice$Parser", "readNewName", "()Z"⟩, 4), (⟨"AlmanacOffice$Parser", "readFair", "()Z"⟩, 4), (⟨"AlmanacOffice$Parser", "readKnownVillage", "()Z"⟩, 4), (⟨"AlmanacOffice$Parser", "readSay", "()Z"⟩, 4), (⟨"AlmanacOffice$Parser", "weatherOfToken", "()I"⟩, 4), (⟨"AlmanacOffice$Parser", "readRetract", "()Z"⟩, 4), (⟨"AlmanacOffice$State", "payBack", "(I)V"⟩, 14), (⟨"AlmanacOffice$Parser", "readPass", "()Z"⟩, 4)]
theorem lw_r1 : ∀ q ∈ lw_privs_1, lw_okq q := List.forall_mem_cons.mpr ⟨lw_p0, List.forall_mem_cons.mpr ⟨lw_p1, List.forall_mem_cons.mpr ⟨lw_p2, List.forall_mem_cons.mpr ⟨lw_p3, List.forall_mem_cons.mpr ⟨lw_p4, List.forall_mem_cons.mpr ⟨lw_p5, List.forall_mem_cons.mpr ⟨lw_p6, List.forall_mem_cons.mpr ⟨lw_p7, List.forall_mem_cons.mpr ⟨lw_p8, List.forall_mem_cons.mpr ⟨lw_p9, List.forall_mem_cons.mpr ⟨lw_p10, List.forall_mem_cons.mpr ⟨lw_p11, List.forall_mem_cons.mpr ⟨lw_p12, List.forall_mem_cons.mpr ⟨lw_p13, List.forall_mem_cons.mpr ⟨lw_p14, List.forall_mem_cons.mpr ⟨lw_p15, fun _ h => absurd h List.not_mem_nil⟩⟩⟩⟩⟩⟩⟩⟩⟩⟩⟩⟩⟩⟩⟩⟩
theorem lw_p16 : lw_okq (⟨"AlmanacOffice$State", "sellAt", "(I)V"⟩, 14) := ⟨⟨by decide +kernel, by decide +kernel⟩, List.mem_of_getElem? (i := 57) (by decide +kernel), List.mem_of_getElem? (i := 585) (by decide +kernel), List.mem_of_getElem? (i := 586) (by decide +kernel)⟩
theorem lw_p17 : lw_okq (⟨"AlmanacOffice$State", "judge", "(II)V"⟩, 14) := ⟨⟨by decide +kernel, by decide +kernel⟩, List.mem_of_getElem? (i := 57) (by decide +kernel), List.mem_of_getElem? (i := 606) (by decide +kernel), List.mem_of_getElem? (i := 607) (by decide +kernel)⟩
theorem lw_p18 : lw_okq (⟨"AlmanacOfficeLaw$Hand", "find", "(II)I"⟩, 16) := ⟨⟨by decide +kernel, by decide +kernel⟩, List.mem_of_getElem? (i := 716) (by decide +kernel), List.mem_of_getElem? (i := 804) (by decide +kernel), List.mem_of_getElem? (i := 805) (by decide +kernel)⟩
theorem lw_p19 : lw_okq (⟨"AlmanacOfficeLaw$Hand", "retracts", "(I)I"⟩, 16) := ⟨⟨by decide +kernel, by decide +kernel⟩, List.mem_of_getElem? (i := 716) (by decide +kernel), List.mem_of_getElem? (i := 811) (by decide +kernel), List.mem_of_getElem? (i := 812) (by decide +kernel)⟩
theorem lw_p20 : lw_okq (⟨"AlmanacOfficeLaw$Hand", "passes", "()V"⟩, 16) := ⟨⟨by decide +kernel, by decide +kernel⟩, List.mem_of_getElem? (i := 716) (by decide +kernel), List.mem_of_getElem? (i := 822) (by decide +kernel), List.mem_of_getElem? (i := 823) (by decide +kernel)⟩
theorem lw_p21 : lw_okq (⟨"AlmanacOfficeLaw$Hand", "fair", "(I)V"⟩, 16) := ⟨⟨by decide +kernel, by decide +kernel⟩, List.mem_of_getElem? (i := 716) (by decide +kernel), List.mem_of_getElem? (i := 826) (by decide +kernel), List.mem_of_getElem? (i := 827) (by decide +kernel)⟩
theorem lw_p22 : lw_okq (⟨"AlmanacOfficeLaw$Hand", "weather", "(I)V"⟩, 16) := ⟨⟨by decide +kernel, by decide +kernel⟩, List.mem_of_getElem? (i := 716) (by decide +kernel), List.mem_of_getElem? (i := 830) (by decide +kernel), List.mem_of_getElem? (i := 831) (by decide +kernel)⟩
theorem lw_p23 : lw_okq (⟨"AlmanacOfficeLaw$Hand", "remembers", "(I)V"⟩, 16) := ⟨⟨by decide +kernel, by decide +kernel⟩, List.mem_of_getElem? (i := 716) (by decide +kernel), List.mem_of_getElem? (i := 834) (by decide +kernel), List.mem_of_getElem? (i := 835) (by decide +kernel)⟩
theorem lw_p24 : lw_okq (⟨"AlmanacOffice", "requireVillage", "(I)V"⟩, 9) := ⟨⟨by decide +kernel, by decide +kernel⟩, List.mem_of_getElem? (i := 33) (by decide +kernel), List.mem_of_getElem? (i := 875) (by decide +kernel), List.mem_of_getElem? (i := 876) (by decide +kernel)⟩
theorem lw_p25 : lw_okq (⟨"java/lang/Throwable", "fillInStackTrace", "(I)Ljava/lang/Throwable;"⟩, 6) := ⟨⟨by decide +kernel, by decide +kernel⟩, List.mem_of_getElem? (i := 919) (by decide +kernel), List.mem_of_getElem? (i := 917) (by decide +kernel), List.mem_of_getElem? (i := 918) (by decide +kernel)⟩
theorem lw_p26 : lw_okq (⟨"AlmanacOffice", "requireRange", "(III)V"⟩, 9) := ⟨⟨by decide +kernel, by decide +kernel⟩, List.mem_of_getElem? (i := 33) (by decide +kernel), List.mem_of_getElem? (i := 953) (by decide +kernel), List.mem_of_getElem? (i := 954) (by decide +kernel)⟩
theorem lw_p27 : lw_okq (⟨"AlmanacOffice", "requireForecast", "(II)I"⟩, 9) := ⟨⟨by decide +kernel, by decide +kernel⟩, List.mem_of_getElem? (i := 33) (by decide +kernel), List.mem_of_getElem? (i := 1005) (by decide +kernel), List.mem_of_getElem? (i := 1006) (by decide +kernel)⟩
theorem lw_p28 : lw_okq (⟨"AlmanacOffice", "requirePage", "(I)V"⟩, 9) := ⟨⟨by decide +kernel, by decide +kernel⟩, List.mem_of_getElem? (i := 33) (by decide +kernel), List.mem_of_getElem? (i := 1363) (by decide +kernel), List.mem_of_getElem? (i := 1364) (by decide +kernel)⟩
def lw_privs_2 : List (MethodName × Nat) := [(⟨"AlmanacOffice$State", "sellAt", "(I)V"⟩, 14), (⟨"AlmanacOffice$State", "judge", "(II)V"⟩, 14), (⟨"AlmanacOfficeLaw$Hand", "find", "(II)I"⟩, 16), (⟨"AlmanacOfficeLaw$Hand", "retracts", "(I)I"⟩, 16), (⟨"AlmanacOfficeLaw$Hand", "passes", "()V"⟩, 16), (⟨"AlmanacOfficeLaw$Hand", "fair", "(I)V"⟩, 16), (⟨"AlmanacOfficeLaw$Hand", "weather", "(I)V"⟩, 16), (⟨"AlmanacOfficeLaw$Hand", "remembers", "(I)V"⟩, 16), (⟨"AlmanacOffice", "requireVillage", "(I)V"⟩, 9), (⟨"java/lang/Throwable", "fillInStackTrace", "(I)Ljava/lang/Throwable;"⟩, 6), (⟨"AlmanacOffice", "requireRange", "(III)V"⟩, 9), (⟨"AlmanacOffice", "requireForecast", "(II)I"⟩, 9), (⟨"AlmanacOffice", "requirePage", "(I)V"⟩, 9)]
theorem lw_r2 : ∀ q ∈ lw_privs_2, lw_okq q := List.forall_mem_cons.mpr ⟨lw_p16, List.forall_mem_cons.mpr ⟨lw_p17, List.forall_mem_cons.mpr ⟨lw_p18, List.forall_mem_cons.mpr ⟨lw_p19, List.forall_mem_cons.mpr ⟨lw_p20, List.forall_mem_cons.mpr ⟨lw_p21, List.forall_mem_cons.mpr ⟨lw_p22, List.forall_mem_cons.mpr ⟨lw_p23, List.forall_mem_cons.mpr ⟨lw_p24, List.forall_mem_cons.mpr ⟨lw_p25, List.forall_mem_cons.mpr ⟨lw_p26, List.forall_mem_cons.mpr ⟨lw_p27, List.forall_mem_cons.mpr ⟨lw_p28, fun _ h => absurd h List.not_mem_nil⟩⟩⟩⟩⟩⟩⟩⟩⟩⟩⟩⟩⟩
def lw_privs : List (MethodName × Nat) := lw_privs_1 ++ (lw_privs_2)
def lw_tbl : List Cond := k2_sels lw_privs ++ tables_1
theorem lw_privs_ok : ∀ q ∈ lw_privs, lw_okq q := by
  show ∀ q ∈ lw_privs_1 ++ (lw_privs_2), lw_okq q
  exact List.forall_mem_append.mpr ⟨lw_r1, lw_r2⟩
-- ===== end of PART A; then your names; then what follows =====
end
section
/-! ===== BEGIN words of one list among another's, by their places ===== -/
theorem goodIn_r {big : List Cond} (ws : List Cond) (ps : List Nat) (hp : ws = ps.filterMap (fun i => big[i]?)) (h : ws.all goodWord = true) : GoodIn big ws := by
  intro w hw
  have h1 := List.all_eq_true.mp h w hw
  rw [hp] at hw
  obtain ⟨i, -, hi⟩ := List.mem_filterMap.mp hw
  have hm : w ∈ big := by first | exact List.mem_of_getElem? hi | exact List.getElem?_mem hi
  exact ⟨hm, good_of_word h1⟩
theorem goodIn_app {big a b : List Cond} (ha : GoodIn big a) (hb : GoodIn big b) : GoodIn big (a ++ b) := fun w h => (List.mem_append.mp h).elim (ha w) (hb w)
theorem goodIn_ca {big a b : List Cond} {c : Cond} (ha : GoodIn big (c :: a)) (hb : GoodIn big b) : GoodIn big (c :: (a ++ b)) := fun w h => (List.mem_cons.mp h).elim (fun e => ha w (List.mem_cons.mpr (Or.inl e))) (fun h => (List.mem_append.mp h).elim (fun h => ha w (List.mem_cons.mpr (Or.inr h))) (hb w))
theorem goodIn_sub {big ws : List Cond} (hm : ∀ w ∈ ws, w ∈ big) (h : ws.all goodWord = true) : GoodIn big ws := fun w hw => ⟨hm w hw, good_of_word (List.all_eq_true.mp h w hw)⟩
/-! ===== END ===== -/

/-! ===== BEGIN exceptions that leave a method, and their catching by the caller (launches without stack traces) ===== -/
section VXA
/-! The laws vx_back, vx_callV, vx_callS, vx_callSW, vx_throw0, vx_throwS follow proofs of the library, with one case more: JvmDerived/Free/Laws.lean (Back.of_free), Shelf42/LK1.lean (callV, callS), Shelf/KitTraced.lean (throwNew0V, throwNewS). -/
/-- where a method has thrown q: the class by its name, the cell, what was written, the world -/
def vx_T (XC : String → State → State → Prop) (st : State) (q : Addr) (t : State) (mc ms : Nat) (free : Addr → Prop) : Prop :=
  ∃ (E : String) (ce : Cell) (L : List Loc), XC E st t ∧ t.heap[q]? = some ce ∧ ce.vm = .none ∧ st.vm.findClass E = some ce.cls ∧ st.WarmedH t.vm ∧ st.sameButNew ({ t with vm := st.vm } : State) L mc ms ∧ ∀ z ∈ L, free z.base
def vx_Q (Qc : Array Value → State → Outcome → State → Prop) (XC : String → State → State → Prop) (mc ms : Nat) (free : Addr → Prop) : Array Value → State → Outcome → State → Prop := fun a st o t =>
  (Qc a st o t ∧ ∃ L, FrameEnd st o t L mc ms ∧ ∀ q ∈ L, free q.base) ∨ ∃ q, o = .threw q ∧ vx_T XC st q t mc ms free
/-- a callee that returns or throws -/
def vx_Met (l : Launch) (y : MethodName) (ws : List Cond) (rm : Room) (Pc : Array Value → State → Prop) (Qc : Array Value → State → Outcome → State → Prop) (XC : String → State → State → Prop) (mc ms : Nat) (free : Addr → Prop) : Prop :=
  MetFree l y (headSpec ws rm) Pc (fun _ _ _ _ _ => True) (vx_Q Qc XC mc ms free)
def vx_Post (XC : String → State → State → Prop) (mc ms : Nat) (free : Addr → Prop) : Pt → Array Value → Addr → Pt → Prop := fun A a q B =>
  ∃ (g : JFrame) (mk : MethodId) (t : State) (L : List Loc) (E : String) (ce : Cell), B.U.heap = t.heap ∧ B.U.vm = t.vm ∧ XC E (A.U.calling g mk a) t ∧ t.heap[q]? = some ce ∧ ce.vm = .none ∧ A.U.vm.findClass E = some ce.cls ∧ B.locs = A.locs ++ L ∧ (∀ z ∈ L, free z.base) ∧ B.cells = A.cells + mc ∧ B.slots = A.slots + ms
def vx_Back (l : Launch) (R : Room) (p : Program) (e : Env) (below : List Frame) (s : State) (sargs : Array Value) (y : MethodName) (len W9 : Nat)
    (Pre : Pt → Array Value → Prop) (Post : Pt → Array Value → Option Value → Pt → Prop) (PostX : Pt → Array Value → Addr → Pt → Prop) : Prop :=
  ∀ (m : MethodId) (meth : Method) (c : Code) (A : Pt) (g : JFrame) (ig : Instr) (mk : MethodId) (a : Array Value),
    Stand p l e R s m sargs below meth c A.U A.locs A.cells A.slots → g.method = m → g.locals.size = c.maxLocals → decode c.code g.pc = .ok (ig, len) →
    2 * g.monitorRoom + (g.stack.map fun v => v.category).sum ≤ W9 → A.U.methodNamed? y = some mk → Pre A a →
    (∃ (v : Option Value) (B : Pt), Stand p l e R s m sargs below meth c B.U B.locs B.cells B.slots ∧ Post A a v B ∧
      Steps p.tables e below (doInvoke e (A.U.setTop g) [] mk a).1 (B.U.setTop { g with pc := g.pc + len, stack := v.toList ++ g.stack })) ∨
    (∃ (q : Addr) (B : Pt), Stand p l e R s m sargs below meth c B.U B.locs B.cells B.slots ∧ PostX A a q B ∧
      Steps p.tables e below (doInvoke e (A.U.setTop g) [] mk a).1 ((B.U.setTop g).pushFrame (.throwing q)))
section Payer
variable {l : Launch} {R : Room} {p : Program} {e : Env} {below : List Frame} {s : State} {sargs : Array Value} {y : MethodName} {len W9 : Nat}
theorem vx_back {ws : List Cond} {rm : Room} {Pc : Array Value → State → Prop} {Qc : Array Value → State → Outcome → State → Prop} {XC : String → State → State → Prop} {mc ms : Nat} {free : Addr → Prop} {bytes : ByteArray} {maxL : Nat} {ret : Option FieldType}
    (hM : vx_Met l y ws rm Pc Qc XC mc ms free) (hblind : FrameBlind Pc) (hrc : rm.cells = mc) (hrs : rm.slots = ms)
    (hframes : rm.frames + 1 ≤ R.frames) (hlocals : W9 + (maxL + 11) + rm.locals ≤ R.locals)
    (hws : ∀ w ∈ ws, ∀ a' U, s.WarmedH U.vm → w.before a' U = true) (hcode : Cond.code y bytes maxL ret ∈ ws) (hinit : ∀ a' U, s.WarmedH U.vm → (Cond.initialized y.cls).before a' U = true) :
    vx_Back l R p e below s sargs y len W9 (PreOf R mc ms Pc) (PostOf Qc mc ms free) (vx_Post XC mc ms free) := by
  intro m meth c A g ig mk a X hg hsize hdg hW hn hp
  have h1 : (headSpec ws rm).pre.before a A.U = true := atoms_intro fun w hw => hws w hw _ _ X.warmed
  have h2 : (Cond.code y bytes maxL ret).before a A.U = true := hws _ hcode _ _ X.warmed
  have h3 : (Cond.initialized y.cls).before a A.U = true := hinit _ _ X.warmed
  have h4 : A.cells + (headSpec ws rm).room.cells ≤ R.cells := by rw [show (headSpec ws rm).room.cells = mc from hrc]; exact hp.1
  have h5 : A.slots + (headSpec ws rm).room.slots ≤ R.slots := by rw [show (headSpec ws rm).room.slots = ms from hrs]; exact hp.2.1
  have hPc : Pc a (A.U.calling g mk a) := hblind _ _ _ _ hp.2.2
  obtain ⟨U, Ls, c0, s0⟩ := A
  dsimp only [Pt.U, Pt.locs, Pt.cells, Pt.slots] at h1 h2 h3 h4 h5 X hn hPc ⊢
  obtain ⟨methY, cY, hmY, hcY, -, hlY, -, -, -, -⟩ := Cond.code_spec hn h2
  obtain ⟨kY, hkY, -⟩ := className_of_methodNamed hn
  have hinitY : kY.init = .initialized := Cond.initialized_spec (findClass_of_methodNamed hn) hkY h3
  have h : At U g.method c below := by rw [hg]; exact X.here
  have hlocals9 : W9 + (maxL + 11) + (headSpec ws rm).room.locals ≤ R.locals := hlocals
  have happ : (headSpec ws rm).appliesLoose y e.platform (U.calling g mk a) = true :=
    Spec.appliesLoose_calling (g := g) h hdg hn hkY hinitY
      (X.room_calling (g := g) (R' := (headSpec ws rm).room) hsize hmY hcY hframes (by rw [hlY]; omega) h4 h5) h1
  obtain ⟨mid, hmid⟩ := h.above
  have hfr : (U.setTop g).frames = (.java g :: mid) ++ below := by rw [State.frames_setTop' g h.top, hmid]; rfl
  obtain ⟨o, s₂, hsteps, -, hend, hq⟩ := Steps.callFree hM p X.admits X.cas X.clock (acts := []) hfr happ hPc trivial
  have hq' : vx_Q Qc XC mc ms free a (U.calling g mk a) o s₂ := hq
  rw [State.frames_setTop' g h.top] at hend
  obtain ⟨g₀, hg0⟩ := Option.isSome_iff_exists.mp h.top
  obtain ⟨r, hr⟩ := State.topJava?_eq_some.mp hg0
  have hr' : (({ U with heap := s₂.heap, slotsUsed := s₂.slotsUsed } : State).setVm s₂.vm).frames = .java g₀ :: r := hr
  rcases hq' with ⟨hqc, L, hfe, hL⟩ | ⟨q, rfl, E, ce, L, hx, hce, hcv, hcl, hW₂, hsm, hL⟩
  · obtain ⟨⟨v, rfl⟩, hW₂, e2, q2, q3, q4, q5, q6⟩ := id hfe
    have e3 : s₂ = ({ (U.calling g mk a).setFrames s₂.frames with heap := s₂.heap, slotsUsed := s₂.slotsUsed } : State).setVm s₂.vm := by
      have : s₂ = ({ s₂ with vm := (U.calling g mk a).vm } : State).setVm s₂.vm := rfl
      rw [e2] at this
      exact this
    obtain ⟨c₂, i₂, len₂, hc₂, hd₂, hf₂⟩ := hend
    have hW' : U.WarmedH s₂.vm := hW₂
    have hcc : c₂ = c := by
      have h1 : s₂.code? g.method = U.code? g.method := by
        rw [State.code?_eq, State.code?_eq, hW'.alike.method?]
      exact Option.some.inj (hc₂.symm.trans (h1.trans h.code))
    subst hcc
    have hlen : len₂ = len := by rw [hdg] at hd₂; cases hd₂; rfl
    subst hlen
    have hs₂ : s₂ = (({ U with heap := s₂.heap, slotsUsed := s₂.slotsUsed } : State).setVm s₂.vm).setTop { g with pc := g.pc + len₂, stack := v.toList ++ g.stack } := by
      refine e3.trans ?_
      rw [hf₂, State.calling_eq h.top, State.setFrames_setFrames, State.setTop_of_frames _ hr', hr]
      rfl
    have hsame : U.sameButNew ({ U with heap := s₂.heap, slotsUsed := s₂.slotsUsed } : State) L mc ms := by
      refine ⟨?_, q2, q3, q4, q5, q6⟩
      obtain ⟨t, ht, -⟩ := State.frames_cons hr
      show ({ U with heap := s₂.heap, slotsUsed := s₂.slotsUsed } : State) = { U.setFrames U.frames with heap := s₂.heap, slotsUsed := s₂.slotsUsed }
      rw [State.setFrames_self ht]
    subst hg
    refine Or.inl ⟨v, ⟨(({ U with heap := s₂.heap, slotsUsed := s₂.slotsUsed } : State).setVm s₂.vm), Ls ++ L, c0 + mc, s0 + ms⟩,
      ⟨X.admits, X.cas, X.clock, X.frames, X.room, X.hears, X.method, X.code, (X.here.setHeapUsed s₂.heap s₂.slotsUsed).setVm hW'.alike, X.tail, State.WarmedH.trans X.warmed hW', X.limits, X.bytes, X.same.trans (hsame.setVm s.vm)⟩,
      ⟨g, mk, s₂, L, rfl, rfl, hqc, rfl, hL, rfl, rfl⟩, ?_⟩
    show Steps p.tables e below _ ((({ U with heap := s₂.heap, slotsUsed := s₂.slotsUsed } : State).setVm s₂.vm).setTop { g with pc := g.pc + len₂, stack := v.toList ++ g.stack })
    rw [← hs₂]
    exact hsteps
  · obtain ⟨e2, q2, q3, q4, q5, q6⟩ := id hsm
    have e3 : s₂ = ({ (U.calling g mk a).setFrames s₂.frames with heap := s₂.heap, slotsUsed := s₂.slotsUsed } : State).setVm s₂.vm := by
      have : s₂ = ({ s₂ with vm := (U.calling g mk a).vm } : State).setVm s₂.vm := rfl
      rw [e2] at this
      exact this
    have hf₂ : s₂.frames = .throwing q :: .java g :: U.frames.tail := hend
    have hW' : U.WarmedH s₂.vm := hW₂
    have hs₂ : s₂ = ((({ U with heap := s₂.heap, slotsUsed := s₂.slotsUsed } : State).setVm s₂.vm).setTop g).pushFrame (.throwing q) := by
      refine e3.trans ?_
      rw [hf₂, State.calling_eq h.top, State.setFrames_setFrames, State.pushFrame, State.frames_setTop _ hr', State.setTop_of_frames _ hr', State.setFrames_setFrames, hr]
      rfl
    have hsame : U.sameButNew ({ U with heap := s₂.heap, slotsUsed := s₂.slotsUsed } : State) L mc ms := by
      refine ⟨?_, q2, q3, q4, q5, q6⟩
      obtain ⟨t, ht, -⟩ := State.frames_cons hr
      show ({ U with heap := s₂.heap, slotsUsed := s₂.slotsUsed } : State) = { U.setFrames U.frames with heap := s₂.heap, slotsUsed := s₂.slotsUsed }
      rw [State.setFrames_self ht]
    subst hg
    refine Or.inr ⟨q, ⟨(({ U with heap := s₂.heap, slotsUsed := s₂.slotsUsed } : State).setVm s₂.vm), Ls ++ L, c0 + mc, s0 + ms⟩,
      ⟨X.admits, X.cas, X.clock, X.frames, X.room, X.hears, X.method, X.code, (X.here.setHeapUsed s₂.heap s₂.slotsUsed).setVm hW'.alike, X.tail, State.WarmedH.trans X.warmed hW', X.limits, X.bytes, X.same.trans (hsame.setVm s.vm)⟩,
      ⟨g, mk, s₂, L, E, ce, rfl, rfl, hx, hce, hcv, hcl, rfl, hL, rfl, rfl⟩, ?_⟩
    show Steps p.tables e below _ (((({ U with heap := s₂.heap, slotsUsed := s₂.slotsUsed } : State).setVm s₂.vm).setTop g).pushFrame (.throwing q))
    rw [← hs₂]
    exact hsteps
end Payer
section Calls
variable {p : Program} {l : Launch} {e : Env} {R : Room} {s : State} {m : MethodId} {args : Array Value} {below : List Frame} {meth : Method} {c : Code} {T : State} {locs : List Loc} {cells slots : Nat}
theorem vx_callV (X : Stand p l e R s m args below meth c T locs cells slots) (hexec : p.tables.exec = Jvm.exec) {own C : String} {index : Nat} {y : MethodName} {bytes : ByteArray} {maxL : Nat} {ret : Option FieldType}
    (hown : s.vm.findClass own = some m.cls) (hlink : (Cond.methodLink own index y).before args s = true) (hinst : (Cond.instanceMethod y).before args s = true) (hsel : (Cond.selects C y y).before args s = true)
    (hcode : (Cond.code y bytes maxL ret).before args s = true) (hy : y.cls ≠ "java/lang/invoke/MethodHandle" ∧ y.cls ≠ "java/lang/invoke/VarHandle")
    {W9 : Nat} {Pre : Pt → Array Value → Prop} {Post : Pt → Array Value → Option Value → Pt → Prop} {PostX : Pt → Array Value → Addr → Pt → Prop} (hK : vx_Back l R p e below s args y 3 W9 Pre Post PostX)
    {b : Addr} {cellB : Cell} (hcell : T.heap[b]? = some cellB) (hobj : cellB.vm.isStatics = false) (hcls : s.vm.findClass C = some cellB.cls)
    {g : JFrame} (hg : g.method = m) (hsize : g.locals.size = c.maxLocals) {argsL rest : List Value} (hlen : ∀ sig, parseMethodDescriptor y.desc = some sig → argsL.length = sig.parameters.length)
    (hstack : g.stack = argsL.reverse ++ .ref b :: rest) (hW : 2 * g.monitorRoom + (rest.map fun v => v.category).sum ≤ W9) (hdg : decode c.code g.pc = .ok (.invokevirtual index, 3))
    (hpre : ∀ vm₁, s.WarmedH vm₁ → Pre ⟨T.setVm vm₁, locs, cells, slots⟩ (Value.ref b :: argsL).toArray) :
    (∃ (v : Option Value) (vm₁ : Vm) (B : Pt), s.WarmedH vm₁ ∧ Stand p l e R s m args below meth c B.U B.locs B.cells B.slots ∧ Post ⟨T.setVm vm₁, locs, cells, slots⟩ (Value.ref b :: argsL).toArray v B ∧
      ∀ target, Steps p.tables e below (B.U.setTop { g with pc := g.pc + 3, stack := v.toList ++ rest }) target → Steps p.tables e below (T.setTop g) target) ∨
    (∃ (q : Addr) (vm₁ : Vm) (B : Pt), s.WarmedH vm₁ ∧ Stand p l e R s m args below meth c B.U B.locs B.cells B.slots ∧ PostX ⟨T.setVm vm₁, locs, cells, slots⟩ (Value.ref b :: argsL).toArray q B ∧
      Steps p.tables e below (T.setTop g) ((B.U.setTop { g with stack := rest }).pushFrame (.throwing q))) := by
  obtain ⟨mk, methM, hnamed, hmethM, hstM, habM⟩ := Cond.instanceMethod_spec hinst
  obtain ⟨methM', cM, hmethM', -, -, -, -, -, -, hsigM⟩ := Cond.code_spec hnamed hcode
  cases hmethM.symm.trans hmethM'
  obtain ⟨c2, r2, m2, q1, q2, q3, q4, kP, hkP, hkPi⟩ := Cond.selects_spec hsel
  cases hcls.symm.trans q1
  cases (State.methodFound?_of_named hnamed hy).symm.trans q2
  cases hnamed.symm.trans q3
  have hselP : selectMethod e.platform s.vm cellB.cls mk = .method mk := by rw [Launch.admits_selectMethod X.admits]; exact q4
  obtain ⟨vm₁, X₁, hstep₁⟩ := X.invokevirtual hexec hown hlink hnamed hmethM hstM hkP hkPi hy (a := b) (cell := cellB) hcell
    (fun z h => by rw [h] at hobj; cases hobj) hselP hmethM habM hkP hkPi (g := g) hg (argsL := argsL) (rest := rest) (hlen _ hsigM) hstack hdg
  rcases hK m meth c ⟨T.setVm vm₁, locs, cells, slots⟩ { g with stack := rest } (.invokevirtual index) mk (Value.ref b :: argsL).toArray X₁ hg hsize hdg hW (X₁.named hnamed) (hpre vm₁ X₁.warmed) with ⟨v, B, X', hpost, hsteps⟩ | ⟨q, B, X', hpost, hsteps⟩
  · exact Or.inl ⟨v, vm₁, B, X₁.warmed, X', hpost, fun target h => hstep₁ _ fun acts => by rw [doInvoke_state]; exact hsteps.trans h⟩
  · exact Or.inr ⟨q, vm₁, B, X₁.warmed, X', hpost, hstep₁ _ fun acts => by rw [doInvoke_state]; exact hsteps⟩
theorem vx_callS (X : Stand p l e R s m args below meth c T locs cells slots) (hexec : p.tables.exec = Jvm.exec) {own : String} {index : Nat} {y : MethodName} {bytes : ByteArray} {maxL : Nat} {ret : Option FieldType}
    (hown : s.vm.findClass own = some m.cls) (hlink : (Cond.methodLink own index y).before args s = true) (hstat : (Cond.static y).before args s = true) (hinit : (Cond.initialized y.cls).before args s = true)
    (hcode : (Cond.code y bytes maxL ret).before args s = true) (hy : y.cls ≠ "java/lang/invoke/MethodHandle" ∧ y.cls ≠ "java/lang/invoke/VarHandle")
    {W9 : Nat} {Pre : Pt → Array Value → Prop} {Post : Pt → Array Value → Option Value → Pt → Prop} {PostX : Pt → Array Value → Addr → Pt → Prop} (hK : vx_Back l R p e below s args y 3 W9 Pre Post PostX)
    {g : JFrame} (hg : g.method = m) (hsize : g.locals.size = c.maxLocals) {argsL rest : List Value} (hlen : ∀ sig, parseMethodDescriptor y.desc = some sig → argsL.length = sig.parameters.length)
    (hstack : g.stack = argsL.reverse ++ rest) (hW : 2 * g.monitorRoom + (rest.map fun v => v.category).sum ≤ W9) (hdg : decode c.code g.pc = .ok (.invokestatic index, 3))
    (hpre : ∀ vm₁, s.WarmedH vm₁ → Pre ⟨T.setVm vm₁, locs, cells, slots⟩ argsL.toArray) :
    (∃ (v : Option Value) (vm₁ : Vm) (B : Pt), s.WarmedH vm₁ ∧ Stand p l e R s m args below meth c B.U B.locs B.cells B.slots ∧ Post ⟨T.setVm vm₁, locs, cells, slots⟩ argsL.toArray v B ∧
      ∀ target, Steps p.tables e below (B.U.setTop { g with pc := g.pc + 3, stack := v.toList ++ rest }) target → Steps p.tables e below (T.setTop g) target) ∨
    (∃ (q : Addr) (vm₁ : Vm) (B : Pt), s.WarmedH vm₁ ∧ Stand p l e R s m args below meth c B.U B.locs B.cells B.slots ∧ PostX ⟨T.setVm vm₁, locs, cells, slots⟩ argsL.toArray q B ∧
      Steps p.tables e below (T.setTop g) ((B.U.setTop { g with stack := rest }).pushFrame (.throwing q))) := by
  obtain ⟨mk, hnamed⟩ := Cond.code_named hcode
  obtain ⟨methM, cM, hmethM, -, -, -, -, -, -, hsigM⟩ := Cond.code_spec hnamed hcode
  have hstatic : methM.isStatic = true := Cond.static_spec hnamed hmethM hstat
  obtain ⟨kP, hkP, -⟩ := className_of_methodNamed hnamed
  have hinitP : kP.init = .initialized := Cond.initialized_spec (findClass_of_methodNamed hnamed) hkP hinit
  obtain ⟨vm₁, X₁, hstep₁⟩ := X.invokestatic hexec hown hlink hnamed hmethM hstatic hkP hinitP hy (g := g) hg (argsL := argsL) (rest := rest) (hlen _ hsigM) hstack hdg
  rcases hK m meth c ⟨T.setVm vm₁, locs, cells, slots⟩ { g with stack := rest } (.invokestatic index) mk argsL.toArray X₁ hg hsize hdg hW (X₁.named hnamed) (hpre vm₁ X₁.warmed) with ⟨v, B, X', hpost, hsteps⟩ | ⟨q, B, X', hpost, hsteps⟩
  · exact Or.inl ⟨v, vm₁, B, X₁.warmed, X', hpost, fun target h => hstep₁ _ fun acts => by rw [doInvoke_state]; exact hsteps.trans h⟩
  · exact Or.inr ⟨q, vm₁, B, X₁.warmed, X', hpost, hstep₁ _ fun acts => by rw [doInvoke_state]; exact hsteps⟩
end Calls
theorem vx_cls {s : State} {T : State} {vm₁ : Vm} {E : String} {k : ClassId} (hW : s.WarmedH vm₁) (h : (T.setVm vm₁).vm.findClass E = some k) : s.vm.findClass E = some k := by
  have h1 : vm₁.findClass E = some k := h
  rw [hW.alike.findClass] at h1
  exact h1
/-- the method's frame g, with q thrown over it -/
def vx_W (p : Program) (l : Launch) (e : Env) (R : Room) (s : State) (m : MethodId) (args : Array Value) (below : List Frame) (meth : Method) (c : Code) (H : Heap) (locs : List Loc) (cells slots : Nat) (Q : State → Prop) (g : JFrame) (q : Addr) : Prop :=
  ∀ T : State, T.heap = H → Stand p l e R s m args below meth c T locs cells slots → ∃ t, Steps p.tables e below ((T.setTop g).pushFrame (.throwing q)) t ∧ Q t
def vx_Run (p : Program) (l : Launch) (e : Env) (R : Room) (s : State) (m : MethodId) (args : Array Value) (below : List Frame) (meth : Method) (c : Code) (H : Heap) (locs : List Loc) (cells slots mc ms : Nat) (g : JFrame) (rest : List Value) (Qa : State → Outcome → State → Prop) (XC : String → State → State → Prop) (free : Addr → Prop) : Prop :=
  ∀ T : State, T.heap = H → Stand p l e R s m args below meth c T locs cells slots →
    (∃ (v : Option Value) (st₀ t T' : State) (L : List Loc), st₀.heap = H ∧ Stand p l e R s m args below meth c T' (locs ++ L) (cells + mc) (slots + ms) ∧ (∀ q ∈ L, free q.base) ∧ T'.heap = t.heap ∧ T'.vm = t.vm ∧ Qa st₀ (.returned v) t ∧
      Goes p e below T g T' { g with pc := g.pc + 3, stack := v.toList ++ rest }) ∨
    (∃ (q : Addr) (st₀ t T' : State) (L : List Loc) (E : String) (ce : Cell), st₀.heap = H ∧ Stand p l e R s m args below meth c T' (locs ++ L) (cells + mc) (slots + ms) ∧ (∀ z ∈ L, free z.base) ∧ T'.heap = t.heap ∧ T'.vm = t.vm ∧ XC E st₀ t ∧ t.heap[q]? = some ce ∧ ce.vm = .none ∧ s.vm.findClass E = some ce.cls ∧
      Steps p.tables e below (T.setTop g) ((T'.setTop { g with stack := rest }).pushFrame (.throwing q)))
def vx_X {S : Type} (px : S → Prop) (B : String → S → State → Prop) (A : Nat → Prop) : String → State → State → Prop := fun E st t => ∃ u : S, px u ∧ B E u t ∧ va_F A st t
section Runs
variable {p : Program} {l : Launch} {e : Env} {R : Room} {s : State} {m : MethodId} {args : Array Value} {below : List Frame} {meth : Method} {c : Code} {H : Heap} {locs : List Loc} {cells slots : Nat}
variable {y : MethodName} {bytes cc : ByteArray} {maxL nL mc ms n index : Nat} {ret : Option FieldType} {ws : List Cond} {rm : Room} {Pc : Array Value → State → Prop} {Qc : Array Value → State → Outcome → State → Prop} {XC : String → State → State → Prop} {free : Addr → Prop} {Ts : List Cond} {own C : String} {b : Addr} {As rest : List Value} {g : JFrame}
theorem vx_callBack (cb : CallB R s args own index y bytes maxL ret ws rm mc ms n) (hM : vx_Met l y ws rm Pc Qc XC mc ms free) (hbl : FrameBlind Pc) : vx_Back l R p e below s args y 3 8 (PreOf R mc ms Pc) (PostOf Qc mc ms free) (vx_Post XC mc ms free) := by
  obtain ⟨hrc, hrs, hfr, hlo, hws, hcw, -, hini, -⟩ := cb
  exact vx_back (bytes := bytes) (maxL := maxL) (ret := ret) hM hbl hrc hrs hfr hlo hws hcw (fun a' U hW => word_at hW (Or.inl (by first | rfl | simp [Cond.onTables, Cond.keeps, Cond.steady])) hini)
theorem vx_runV (S : CallFix p m c cc nL s args Ts own) (hM : vx_Met l y ws rm Pc Qc XC mc ms free) (cw : CallW R s args own C index y bytes maxL ret ws rm mc ms n) (hp : PreV s H C b Pc As)
    (hg : g.method = m) (hn : As.length = n) (hsize : g.locals.size = nL) (hstack : g.stack = As.reverse ++ .ref b :: rest) (hW : 2 * g.monitorRoom + (rest.map fun v => v.category).sum ≤ 8) (hdg : decode cc g.pc = .ok (.invokevirtual index, 3)) (hf : cells + mc ≤ R.cells ∧ slots + ms ≤ R.slots) :
    vx_Run p l e R s m args below meth c H locs cells slots mc ms g rest (Qc (Value.ref b :: As).toArray) XC free := by
  have hK : vx_Back l R p e below s args y 3 8 (PreOf R mc ms Pc) (PostOf Qc mc ms free) (vx_Post XC mc ms free) := vx_callBack cw.1 hM hp.1
  obtain ⟨⟨-, -, -, -, -, -, hcode, -, hy, hlen, hl⟩, hin, hse⟩ := cw
  obtain ⟨hx, hb, hml, ho, -⟩ := S
  obtain ⟨-, ⟨cellB, hcB, hoB, hclB⟩, hPc⟩ := hp
  intro T hT X
  rcases vx_callV X hx (C := C) (bytes := bytes) (maxL := maxL) (ret := ret) ho hl hin hse hcode hy hK (by rw [hT]; exact hcB) hoB hclB hg (hsize.trans hml.symm) (argsL := As) (rest := rest) (fun sig h => hn.trans (hlen sig h)) hstack hW (by rw [hb]; exact hdg)
    (fun vm₁ hW₁ => ⟨hf.1, hf.2, hPc (T.setVm vm₁) hT hW₁⟩) with ⟨v, vm₁, ⟨U', l2, c2, s2⟩, hW₁, X', ⟨g', mk, t, L, e1, e2, hq, h1, hL, h2, h3⟩, st⟩ | ⟨q, vm₁, ⟨U', l2, c2, s2⟩, hW₁, X', ⟨g', mk, t, L, E, ce, e1, e2, hq, hce, hcv, hcl, h1, hL, h2, h3⟩, st⟩
  · dsimp only [Pt.U, Pt.locs, Pt.cells, Pt.slots] at X' e1 e2 h1 h2 h3 st
    subst h1; subst h2; subst h3
    exact Or.inl ⟨v, (T.setVm vm₁).calling g' mk (Value.ref b :: As).toArray, t, U', L, hT, X', hL, e1, e2, hq, st⟩
  · dsimp only [Pt.U, Pt.locs, Pt.cells, Pt.slots] at X' e1 e2 h1 h2 h3 st hcl
    subst h1; subst h2; subst h3
    exact Or.inr ⟨q, (T.setVm vm₁).calling g' mk (Value.ref b :: As).toArray, t, U', L, E, ce, hT, X', hL, e1, e2, hq, hce, hcv, vx_cls hW₁ hcl, st⟩
theorem vx_runS (S : CallFix p m c cc nL s args Ts own) (hM : vx_Met l y ws rm Pc Qc XC mc ms free) (cw : CallB R s args own index y bytes maxL ret ws rm mc ms n ∧ (Cond.static y).before args s = true) (hp : PreS s H Pc As)
    (hg : g.method = m) (hn : As.length = n) (hsize : g.locals.size = nL) (hstack : g.stack = As.reverse ++ rest) (hW : 2 * g.monitorRoom + (rest.map fun v => v.category).sum ≤ 8) (hdg : decode cc g.pc = .ok (.invokestatic index, 3)) (hf : cells + mc ≤ R.cells ∧ slots + ms ≤ R.slots) :
    vx_Run p l e R s m args below meth c H locs cells slots mc ms g rest (Qc As.toArray) XC free := by
  have hK : vx_Back l R p e below s args y 3 8 (PreOf R mc ms Pc) (PostOf Qc mc ms free) (vx_Post XC mc ms free) := vx_callBack cw.1 hM hp.1
  obtain ⟨⟨-, -, -, -, -, -, hcode, hini, hy, hlen, hl⟩, hstt⟩ := cw
  obtain ⟨hx, hb, hml, ho, -⟩ := S
  intro T hT X
  rcases vx_callS X hx (bytes := bytes) (maxL := maxL) (ret := ret) ho hl hstt hini hcode hy hK hg (hsize.trans hml.symm) (argsL := As) (rest := rest) (fun sig h => hn.trans (hlen sig h)) hstack hW (by rw [hb]; exact hdg)
    (fun vm₁ hW₁ => ⟨hf.1, hf.2, hp.2 (T.setVm vm₁) hT hW₁⟩) with ⟨v, vm₁, ⟨U', l2, c2, s2⟩, hW₁, X', ⟨g', mk, t, L, e1, e2, hq, h1, hL, h2, h3⟩, st⟩ | ⟨q, vm₁, ⟨U', l2, c2, s2⟩, hW₁, X', ⟨g', mk, t, L, E, ce, e1, e2, hq, hce, hcv, hcl, h1, hL, h2, h3⟩, st⟩
  · dsimp only [Pt.U, Pt.locs, Pt.cells, Pt.slots] at X' e1 e2 h1 h2 h3 st
    subst h1; subst h2; subst h3
    exact Or.inl ⟨v, (T.setVm vm₁).calling g' mk As.toArray, t, U', L, hT, X', hL, e1, e2, hq, st⟩
  · dsimp only [Pt.U, Pt.locs, Pt.cells, Pt.slots] at X' e1 e2 h1 h2 h3 st hcl
    subst h1; subst h2; subst h3
    exact Or.inr ⟨q, (T.setVm vm₁).calling g' mk As.toArray, t, U', L, E, ce, hT, X', hL, e1, e2, hq, hce, hcv, vx_cls hW₁ hcl, st⟩
end Runs
section Rows
variable {p : Program} {l : Launch} {e : Env} {R : Room} {s : State} {m : MethodId} {args : Array Value} {below : List Frame} {meth : Method} {c : Code} {H : Heap} {locs : List Loc} {cells slots : Nat} {Q : State → Prop}
variable {mc ms : Nat} {free : Addr → Prop} {A0 A1 : Nat → Prop} {H0 : Heap} {a : Array Value} {pc : Nat} {ls : Array Slot} {st0 rest : List Value}
theorem vx_keep {st₀ t T' : State} {L : List Loc} (h0 : st₀.heap = H) (e1 : T'.heap = t.heap) (hS : va_S A0 H0 H locs) (hA : ∀ q, q < H.size → A1 q → A0 q) (hf : ∀ q, free q → A0 q) (hL : ∀ q ∈ L, free q.base) (hF : va_F A1 st₀ t) :
    H.size ≤ T'.heap.size ∧ (∀ q : Nat, q < H.size → ¬ A1 q → T'.heap[q]? = H[q]?) ∧ va_S A0 H0 T'.heap (locs ++ L) := by
  obtain ⟨hz, hk⟩ := hF
  rw [h0] at hz hk
  exact ⟨by rw [e1]; exact hz, fun q h1 h2 => by rw [e1]; exact hk q h1 h2,
    ⟨Nat.le_trans hS.1 (by rw [e1]; exact hz), fun q h1 h2 => by rw [e1, hk q (Nat.lt_of_lt_of_le h1 hS.1) (fun z => h2 (hA q (Nat.lt_of_lt_of_le h1 hS.1) z))]; exact hS.2.1 q h1 h2, fun q hq => by
      rcases List.mem_append.mp hq with h | h
      · exact hS.2.2 q h
      · exact hf _ (hL q h)⟩⟩
theorem vx_calli {S SX : Type} {post : Int32 → S → Prop} {px : SX → Prop} {B : S → State → Prop} {BX : String → SX → State → Prop} {AX : Nat → Prop} (hr : vx_Run p l e R s m args below meth c H locs cells slots mc ms (F0 m pc ls st0) rest (va_Qi post B A1 a) (vx_X px BX AX) free) (hS : va_S A0 H0 H locs) (hA : ∀ q, q < H.size → A1 q → A0 q) (hf : ∀ q, free q → A0 q) (hAX : ∀ q, q < H.size → AX q → A0 q)
    (kx : ∀ (E : String) (ce : Cell) (q9 : Addr) (u : SX) (t : State) (H1 : Heap) (locs1 : List Loc), t.heap = H1 → s.vm.Alike t.vm → px u → BX E u t → H.size ≤ H1.size → (∀ q : Nat, q < H.size → ¬ AX q → H1[q]? = H[q]?) → va_S A0 H0 H1 locs1 → H1[q9]? = some ce → ce.vm = .none → s.vm.findClass E = some ce.cls → vx_W p l e R s m args below meth c H1 locs1 (cells + mc) (slots + ms) Q (F0 m pc ls rest) q9)
    (kk : ∀ (r : Int32) (u : S) (t : State) (H1 : Heap) (locs1 : List Loc), t.heap = H1 → s.vm.Alike t.vm → post r u → B u t → H.size ≤ H1.size → (∀ q : Nat, q < H.size → ¬ A1 q → H1[q]? = H[q]?) → va_S A0 H0 H1 locs1 → W p l e R s m args below meth c H1 locs1 (cells + mc) (slots + ms) Q (F0 m (pc + 3) ls (.int r :: rest))) : W p l e R s m args below meth c H locs cells slots Q (F0 m pc ls st0) := by
  intro T hT X
  rcases hr T hT X with ⟨v, st₀, t, T', L, h0, X', hL, e1, e2, ⟨⟨r, u, hv, hp, hb⟩, hF⟩, st⟩ | ⟨q, st₀, t, T', L, E, ce, h0, X', hL, e1, e2, ⟨u, hp, hb, hF⟩, hce, hcv, hcl, st⟩
  · cases hv
    obtain ⟨k1, k2, k3⟩ := vx_keep h0 e1 hS hA hf hL hF
    obtain ⟨t2, a1, b1⟩ := kk r u t T'.heap (locs ++ L) e1.symm (by rw [← e2]; exact X'.warmed.alike) hp hb k1 k2 k3 T' rfl X'
    exact ⟨t2, st t2 a1, b1⟩
  · obtain ⟨k1, k2, k3⟩ := vx_keep h0 e1 hS hAX hf hL hF
    obtain ⟨t2, a1, b1⟩ := kx E ce q u t T'.heap (locs ++ L) e1.symm (by rw [← e2]; exact X'.warmed.alike) hp hb k1 k2 k3 (by rw [e1]; exact hce) hcv hcl T' rfl X'
    exact ⟨t2, st.trans a1, b1⟩
theorem vx_calll {S SX : Type} {post : Int64 → S → Prop} {px : SX → Prop} {B : S → State → Prop} {BX : String → SX → State → Prop} {AX : Nat → Prop} (hr : vx_Run p l e R s m args below meth c H locs cells slots mc ms (F0 m pc ls st0) rest (va_Ql post B A1 a) (vx_X px BX AX) free) (hS : va_S A0 H0 H locs) (hA : ∀ q, q < H.size → A1 q → A0 q) (hf : ∀ q, free q → A0 q) (hAX : ∀ q, q < H.size → AX q → A0 q)
    (kx : ∀ (E : String) (ce : Cell) (q9 : Addr) (u : SX) (t : State) (H1 : Heap) (locs1 : List Loc), t.heap = H1 → s.vm.Alike t.vm → px u → BX E u t → H.size ≤ H1.size → (∀ q : Nat, q < H.size → ¬ AX q → H1[q]? = H[q]?) → va_S A0 H0 H1 locs1 → H1[q9]? = some ce → ce.vm = .none → s.vm.findClass E = some ce.cls → vx_W p l e R s m args below meth c H1 locs1 (cells + mc) (slots + ms) Q (F0 m pc ls rest) q9)
    (kk : ∀ (r : Int64) (u : S) (t : State) (H1 : Heap) (locs1 : List Loc), t.heap = H1 → s.vm.Alike t.vm → post r u → B u t → H.size ≤ H1.size → (∀ q : Nat, q < H.size → ¬ A1 q → H1[q]? = H[q]?) → va_S A0 H0 H1 locs1 → W p l e R s m args below meth c H1 locs1 (cells + mc) (slots + ms) Q (F0 m (pc + 3) ls (.long r :: rest))) : W p l e R s m args below meth c H locs cells slots Q (F0 m pc ls st0) := by
  intro T hT X
  rcases hr T hT X with ⟨v, st₀, t, T', L, h0, X', hL, e1, e2, ⟨⟨r, u, hv, hp, hb⟩, hF⟩, st⟩ | ⟨q, st₀, t, T', L, E, ce, h0, X', hL, e1, e2, ⟨u, hp, hb, hF⟩, hce, hcv, hcl, st⟩
  · cases hv
    obtain ⟨k1, k2, k3⟩ := vx_keep h0 e1 hS hA hf hL hF
    obtain ⟨t2, a1, b1⟩ := kk r u t T'.heap (locs ++ L) e1.symm (by rw [← e2]; exact X'.warmed.alike) hp hb k1 k2 k3 T' rfl X'
    exact ⟨t2, st t2 a1, b1⟩
  · obtain ⟨k1, k2, k3⟩ := vx_keep h0 e1 hS hAX hf hL hF
    obtain ⟨t2, a1, b1⟩ := kx E ce q u t T'.heap (locs ++ L) e1.symm (by rw [← e2]; exact X'.warmed.alike) hp hb k1 k2 k3 (by rw [e1]; exact hce) hcv hcl T' rfl X'
    exact ⟨t2, st.trans a1, b1⟩
theorem vx_callf {S SX : Type} {post : UInt32 → S → Prop} {px : SX → Prop} {B : S → State → Prop} {BX : String → SX → State → Prop} {AX : Nat → Prop} (hr : vx_Run p l e R s m args below meth c H locs cells slots mc ms (F0 m pc ls st0) rest (va_Qf post B A1 a) (vx_X px BX AX) free) (hS : va_S A0 H0 H locs) (hA : ∀ q, q < H.size → A1 q → A0 q) (hf : ∀ q, free q → A0 q) (hAX : ∀ q, q < H.size → AX q → A0 q)
    (kx : ∀ (E : String) (ce : Cell) (q9 : Addr) (u : SX) (t : State) (H1 : Heap) (locs1 : List Loc), t.heap = H1 → s.vm.Alike t.vm → px u → BX E u t → H.size ≤ H1.size → (∀ q : Nat, q < H.size → ¬ AX q → H1[q]? = H[q]?) → va_S A0 H0 H1 locs1 → H1[q9]? = some ce → ce.vm = .none → s.vm.findClass E = some ce.cls → vx_W p l e R s m args below meth c H1 locs1 (cells + mc) (slots + ms) Q (F0 m pc ls rest) q9)
    (kk : ∀ (r : UInt32) (u : S) (t : State) (H1 : Heap) (locs1 : List Loc), t.heap = H1 → s.vm.Alike t.vm → post r u → B u t → H.size ≤ H1.size → (∀ q : Nat, q < H.size → ¬ A1 q → H1[q]? = H[q]?) → va_S A0 H0 H1 locs1 → W p l e R s m args below meth c H1 locs1 (cells + mc) (slots + ms) Q (F0 m (pc + 3) ls (.float r :: rest))) : W p l e R s m args below meth c H locs cells slots Q (F0 m pc ls st0) := by
  intro T hT X
  rcases hr T hT X with ⟨v, st₀, t, T', L, h0, X', hL, e1, e2, ⟨⟨r, u, hv, hp, hb⟩, hF⟩, st⟩ | ⟨q, st₀, t, T', L, E, ce, h0, X', hL, e1, e2, ⟨u, hp, hb, hF⟩, hce, hcv, hcl, st⟩
  · cases hv
    obtain ⟨k1, k2, k3⟩ := vx_keep h0 e1 hS hA hf hL hF
    obtain ⟨t2, a1, b1⟩ := kk r u t T'.heap (locs ++ L) e1.symm (by rw [← e2]; exact X'.warmed.alike) hp hb k1 k2 k3 T' rfl X'
    exact ⟨t2, st t2 a1, b1⟩
  · obtain ⟨k1, k2, k3⟩ := vx_keep h0 e1 hS hAX hf hL hF
    obtain ⟨t2, a1, b1⟩ := kx E ce q u t T'.heap (locs ++ L) e1.symm (by rw [← e2]; exact X'.warmed.alike) hp hb k1 k2 k3 (by rw [e1]; exact hce) hcv hcl T' rfl X'
    exact ⟨t2, st.trans a1, b1⟩
theorem vx_calld {S SX : Type} {post : UInt64 → S → Prop} {px : SX → Prop} {B : S → State → Prop} {BX : String → SX → State → Prop} {AX : Nat → Prop} (hr : vx_Run p l e R s m args below meth c H locs cells slots mc ms (F0 m pc ls st0) rest (va_Qd post B A1 a) (vx_X px BX AX) free) (hS : va_S A0 H0 H locs) (hA : ∀ q, q < H.size → A1 q → A0 q) (hf : ∀ q, free q → A0 q) (hAX : ∀ q, q < H.size → AX q → A0 q)
    (kx : ∀ (E : String) (ce : Cell) (q9 : Addr) (u : SX) (t : State) (H1 : Heap) (locs1 : List Loc), t.heap = H1 → s.vm.Alike t.vm → px u → BX E u t → H.size ≤ H1.size → (∀ q : Nat, q < H.size → ¬ AX q → H1[q]? = H[q]?) → va_S A0 H0 H1 locs1 → H1[q9]? = some ce → ce.vm = .none → s.vm.findClass E = some ce.cls → vx_W p l e R s m args below meth c H1 locs1 (cells + mc) (slots + ms) Q (F0 m pc ls rest) q9)
    (kk : ∀ (r : UInt64) (u : S) (t : State) (H1 : Heap) (locs1 : List Loc), t.heap = H1 → s.vm.Alike t.vm → post r u → B u t → H.size ≤ H1.size → (∀ q : Nat, q < H.size → ¬ A1 q → H1[q]? = H[q]?) → va_S A0 H0 H1 locs1 → W p l e R s m args below meth c H1 locs1 (cells + mc) (slots + ms) Q (F0 m (pc + 3) ls (.double r :: rest))) : W p l e R s m args below meth c H locs cells slots Q (F0 m pc ls st0) := by
  intro T hT X
  rcases hr T hT X with ⟨v, st₀, t, T', L, h0, X', hL, e1, e2, ⟨⟨r, u, hv, hp, hb⟩, hF⟩, st⟩ | ⟨q, st₀, t, T', L, E, ce, h0, X', hL, e1, e2, ⟨u, hp, hb, hF⟩, hce, hcv, hcl, st⟩
  · cases hv
    obtain ⟨k1, k2, k3⟩ := vx_keep h0 e1 hS hA hf hL hF
    obtain ⟨t2, a1, b1⟩ := kk r u t T'.heap (locs ++ L) e1.symm (by rw [← e2]; exact X'.warmed.alike) hp hb k1 k2 k3 T' rfl X'
    exact ⟨t2, st t2 a1, b1⟩
  · obtain ⟨k1, k2, k3⟩ := vx_keep h0 e1 hS hAX hf hL hF
    obtain ⟨t2, a1, b1⟩ := kx E ce q u t T'.heap (locs ++ L) e1.symm (by rw [← e2]; exact X'.warmed.alike) hp hb k1 k2 k3 (by rw [e1]; exact hce) hcv hcl T' rfl X'
    exact ⟨t2, st.trans a1, b1⟩
theorem vx_callv {S SX : Type} {post : S → Prop} {px : SX → Prop} {B : S → State → Prop} {BX : String → SX → State → Prop} {AX : Nat → Prop} (hr : vx_Run p l e R s m args below meth c H locs cells slots mc ms (F0 m pc ls st0) rest (va_Qv post B A1 a) (vx_X px BX AX) free) (hS : va_S A0 H0 H locs) (hA : ∀ q, q < H.size → A1 q → A0 q) (hf : ∀ q, free q → A0 q) (hAX : ∀ q, q < H.size → AX q → A0 q)
    (kx : ∀ (E : String) (ce : Cell) (q9 : Addr) (u : SX) (t : State) (H1 : Heap) (locs1 : List Loc), t.heap = H1 → s.vm.Alike t.vm → px u → BX E u t → H.size ≤ H1.size → (∀ q : Nat, q < H.size → ¬ AX q → H1[q]? = H[q]?) → va_S A0 H0 H1 locs1 → H1[q9]? = some ce → ce.vm = .none → s.vm.findClass E = some ce.cls → vx_W p l e R s m args below meth c H1 locs1 (cells + mc) (slots + ms) Q (F0 m pc ls rest) q9)
    (kk : ∀ (u : S) (t : State) (H1 : Heap) (locs1 : List Loc), t.heap = H1 → s.vm.Alike t.vm → post u → B u t → H.size ≤ H1.size → (∀ q : Nat, q < H.size → ¬ A1 q → H1[q]? = H[q]?) → va_S A0 H0 H1 locs1 → W p l e R s m args below meth c H1 locs1 (cells + mc) (slots + ms) Q (F0 m (pc + 3) ls (rest))) : W p l e R s m args below meth c H locs cells slots Q (F0 m pc ls st0) := by
  intro T hT X
  rcases hr T hT X with ⟨v, st₀, t, T', L, h0, X', hL, e1, e2, ⟨⟨u, hv, hp, hb⟩, hF⟩, st⟩ | ⟨q, st₀, t, T', L, E, ce, h0, X', hL, e1, e2, ⟨u, hp, hb, hF⟩, hce, hcv, hcl, st⟩
  · cases hv
    obtain ⟨k1, k2, k3⟩ := vx_keep h0 e1 hS hA hf hL hF
    obtain ⟨t2, a1, b1⟩ := kk u t T'.heap (locs ++ L) e1.symm (by rw [← e2]; exact X'.warmed.alike) hp hb k1 k2 k3 T' rfl X'
    exact ⟨t2, st t2 a1, b1⟩
  · obtain ⟨k1, k2, k3⟩ := vx_keep h0 e1 hS hAX hf hL hF
    obtain ⟨t2, a1, b1⟩ := kx E ce q u t T'.heap (locs ++ L) e1.symm (by rw [← e2]; exact X'.warmed.alike) hp hb k1 k2 k3 (by rw [e1]; exact hce) hcv hcl T' rfl X'
    exact ⟨t2, st.trans a1, b1⟩
/-- caught by the row x of this method's table; the rows ahead don't take it -/
theorem vx_catch {own name : String} {E : String} {ce : Cell} {q : Addr} (hown : s.vm.findClass own = some m.cls) (pre : List ExceptionTableEntry) (x : ExceptionTableEntry) (suf : List ExceptionTableEntry) (hsplit : c.exceptionTable.toList = pre ++ x :: suf)
    (hpass : ∀ z ∈ pre, covers z pc = false ∨ (z.catchType ≠ 0 ∧ ∃ nm : String, (Cond.classLink own z.catchType nm).before args s = true ∧ va_Nc E nm s)) (hx : covers x pc = true) (h0 : x.catchType ≠ 0)
    (hlink : (Cond.classLink own x.catchType name).before args s = true) (hcast : (Cond.castable E name).before args s = true) (hcell : H[q]? = some ce) (hv : ce.vm = .none) (hcl : s.vm.findClass E = some ce.cls)
    (kk : W p l e R s m args below meth c H locs cells slots Q (F0 m x.handlerPc ls [.ref q])) : vx_W p l e R s m args below meth c H locs cells slots Q (F0 m pc ls rest) q := by
  intro T hT X
  have hpl : e.platform.magicAccessors = ({} : Platform).magicAccessors := by rw [X.admits.platform]
  obtain ⟨c3, c4, hc3, hc4, hasg⟩ := Cond.castable_spec hcast
  cases Option.some.inj (hc3.symm.trans hcl)
  obtain ⟨c5, hc5, hcl5⟩ := Cond.classLink_spec hown hlink e.platform hpl
  cases Option.some.inj (hc4.symm.trans hc5)
  obtain ⟨vm', X', st⟩ := X.thenCaughtThrough q (g := F0 m pc ls rest) rfl (Steps.refl _) (by rw [hT]; exact hcell) (by rw [hv]; rfl) (by obtain ⟨k9, h9, -⟩ := Vm.findClass_spec hcl; exact ⟨k9, h9⟩) pre x suf hsplit
    (fun z hz => by
      rcases hpass z hz with h | ⟨hz0, nm, hl1, hn1⟩
      · exact Or.inl h
      · obtain ⟨c6, hc6, hcl6⟩ := Cond.classLink_spec hown hl1 e.platform hpl
        obtain ⟨a8, b8, h1, h2, h3⟩ := hn1
        cases Option.some.inj (h1.symm.trans hcl)
        cases Option.some.inj (h2.symm.trans hc6)
        exact Or.inr ⟨hz0, _, hcl6, h3⟩) hx (Or.inr ⟨h0, c4, hcl5, hasg⟩)
  obtain ⟨t, a1, b1⟩ := kk (T.setVm vm') hT X'
  exact ⟨t, st.trans a1, b1⟩
end Rows
section Ends
variable {p : Program} {l : Launch} {e : Env} {R : Room} {s : State} {m : MethodId} {args : Array Value} {below : List Frame} {meth : Method} {c : Code} {H : Heap} {locs : List Loc} {cells slots : Nat} {Q : State → Prop}
variable {mc ms : Nat} {free : Addr → Prop} {A0 A1 : Nat → Prop} {H0 : Heap} {a : Array Value} {ls : Array Slot} {st0 rest : List Value}
variable {Qc : Array Value → State → Outcome → State → Prop} {XC : String → State → State → Prop}
/-- what a body that may throw owes at its end -/
def vx_MQ (below : List Frame) (Qc : Array Value → State → Outcome → State → Prop) (XC : String → State → State → Prop) (a : Array Value) (s : State) (mc ms : Nat) (free : Addr → Prop) : State → Prop := fun t =>
  ∃ o, t.status = .running ∧ Ended t below o ∧ vx_Q Qc XC mc ms free a s o t
theorem vx_ret {g : JFrame} {mc ms : Nat} (k : W p l e R s m args below meth c H locs cells slots (MQ below Qc args s mc ms free) g) : W p l e R s m args below meth c H locs cells slots (vx_MQ below Qc XC args s mc ms free) g := by
  intro T hT X
  obtain ⟨t, a1, o, b1, b2, b3, b4⟩ := k T hT X
  exact ⟨t, a1, o, b1, b2, Or.inl ⟨b3, b4⟩⟩
/-- not caught here: it goes on to the caller -/
theorem vx_widen {g : JFrame} {q : Addr} {k n : Nat} (h1 : cells ≤ k) (h2 : slots ≤ n) (kk : vx_W p l e R s m args below meth c H locs k n Q g q) : vx_W p l e R s m args below meth c H locs cells slots Q g q := fun T hT X => kk T hT (stand_widen X h1 h2)
theorem vx_out {pc : Nat} {E : String} {ce : Cell} {q : Addr} {mc ms : Nat} (hout : ∀ x ∈ c.exceptionTable.toList, covers x pc = false) (hlocks : meth.locks = false) (hcell : H[q]? = some ce) (hv : ce.vm = .none) (hcl : s.vm.findClass E = some ce.cls)
    (hx : ∀ t : State, t.heap = H → s.vm.Alike t.vm → XC E s t) (hf : ∀ z ∈ locs, free z.base) (hc : cells ≤ mc) (hs : slots ≤ ms) :
    vx_W p l e R s m args below meth c H locs cells slots (vx_MQ below Qc XC args s mc ms free) (F0 m pc ls rest) q := by
  intro T hT X
  obtain ⟨st1, hrun, hend, hW, hsm⟩ := X.leaveThrown q (g := F0 m pc ls rest) rfl rfl rfl hout hlocks
  have hcell9 : (T.setFrames (.throwing q :: below)).heap[q]? = some ce := by
    show T.heap[q]? = some ce
    rw [hT]; exact hcell
  exact ⟨_, st1, .threw q, hrun, hend, Or.inr ⟨q, rfl, E, ce, locs, hx _ hT hW.alike, hcell9, hv, hcl, hW, hsm.mono hc hs, hf⟩⟩
theorem vx_frame {U : State} {k n : Nat} (h : s.sameButNew ({ U with vm := s.vm } : State) locs k n) : s.heap.size ≤ U.heap.size ∧ ∀ q : Nat, q < s.heap.size → (∀ z ∈ locs, z.base ≠ q) → U.heap[q]? = s.heap[q]? := by
  obtain ⟨-, h2, -, -, -, h6⟩ := h
  refine ⟨h2, fun q hq hz => ?_⟩
  obtain ⟨c9, e1, e2, e3, e4⟩ := h6 q _ (Array.getElem?_eq_getElem hq)
  have hs : c9.slots = (s.heap[q]).slots := Array.ext_getElem? fun i => e4 i fun hm => hz _ hm rfl
  have h9 : c9 = s.heap[q] := by
    rw [hs] at e2
    exact e2
  have e5 : U.heap[q]? = some c9 := e1
  rw [e5, h9, Array.getElem?_eq_getElem hq]
/-- the words of a throw but the four that speak of the heap -/
def vx_no (w : Cond) : Bool := decide (w ≠ .isRef (.static Bundle.tN "UNASSIGNED_STACK" Bundle.steD)) && decide (w ≠ .isRef (.static Bundle.tN "SUPPRESSED_SENTINEL" Bundle.listD)) && decide (w ≠ .laysStatic Bundle.tN "UNASSIGNED_STACK" Bundle.steD) && decide (w ≠ .laysStatic Bundle.tN "SUPPRESSED_SENTINEL" Bundle.listD)
def vx_at0 (own : String) (ic : Nat) (X : String) (names : List String) : List Cond := (Bundle.ownAtoms0 own ic X names).filter vx_no
def vx_atS (own : String) (ic : Nat) (X : String) (names : List String) : List Cond := (Bundle.ownAtoms own ic X names).filter vx_no
/-- a word that the tables alone decide, or a good one -/
def vx_ot (w : Cond) : Bool := w.onTables || goodWord w
theorem vx_ot_at {args a' : Array Value} {s U : State} {w : Cond} (hW : s.WarmedH U.vm) (hvm : s.vm = U.vm) (hg : vx_ot w = true) (h : w.before args s = true) : w.before a' U = true := by
  simp only [vx_ot, Bool.or_eq_true] at hg
  rcases hg with hg | hg
  · exact va_tabs hg hvm h
  · exact word_at hW (good_of_word hg) h
/-- a list's words: the good ones out of the method's own list, the others by premises of their own -/
theorem vx_hat {args : Array Value} {s : State} {L B : List Cond} (h1 : ∀ w ∈ L.filter goodWord, w.before args s = true) (h2 : ∀ w ∈ L.filter (fun w => !goodWord w), w ∈ B) (h3 : ∀ w ∈ B, w.before args s = true) : ∀ w ∈ L, w.before args s = true := by
  intro w hw
  by_cases g : goodWord w = true
  · exact h1 w (List.mem_filter.mpr ⟨hw, g⟩)
  · refine h3 w (h2 w (List.mem_filter.mpr ⟨hw, ?_⟩))
    show (!goodWord w) = true
    cases hgw : goodWord w
    · rfl
    · exact absurd hgw g
theorem vx_c {args : Array Value} {s : State} {w : Cond} {B : List Cond} (h : w.before args s = true) (t : ∀ w ∈ B, w.before args s = true) : ∀ w' ∈ w :: B, w'.before args s = true := fun w' h' => (List.mem_cons.mp h').elim (fun e => by rw [e]; exact h) (t w')
theorem vx_n {args : Array Value} {s : State} : ∀ w ∈ ([] : List Cond), w.before args s = true := fun _ h => nomatch h
theorem vx_own {args : Array Value} {s : State} {L : List Cond} (h1 : ∀ w ∈ L.filter vx_no, w.before args s = true)
    (hU : (Cond.isRef (.static Bundle.tN "UNASSIGNED_STACK" Bundle.steD)).before args s = true) (hN : (Cond.isRef (.static Bundle.tN "SUPPRESSED_SENTINEL" Bundle.listD)).before args s = true)
    (lU : (Cond.laysStatic Bundle.tN "UNASSIGNED_STACK" Bundle.steD).before args s = true) (lN : (Cond.laysStatic Bundle.tN "SUPPRESSED_SENTINEL" Bundle.listD).before args s = true) : ∀ w ∈ L, w.before args s = true := by
  intro w hw
  by_cases e1 : w = .isRef (.static Bundle.tN "UNASSIGNED_STACK" Bundle.steD)
  · rw [e1]; exact hU
  · by_cases e2 : w = .isRef (.static Bundle.tN "SUPPRESSED_SENTINEL" Bundle.listD)
    · rw [e2]; exact hN
    · by_cases e3 : w = .laysStatic Bundle.tN "UNASSIGNED_STACK" Bundle.steD
      · rw [e3]; exact lU
      · by_cases e4 : w = .laysStatic Bundle.tN "SUPPRESSED_SENTINEL" Bundle.listD
        · rw [e4]; exact lN
        · exact h1 w (List.mem_filter.mpr ⟨hw, by unfold vx_no; rw [decide_eq_true e1, decide_eq_true e2, decide_eq_true e3, decide_eq_true e4]; rfl⟩)
/-- where a static field lies, its class's statics cell in H -/
def vx_L (C n d : String) (A : Nat → Prop) (U : State) (H : Heap) : Prop := ∃ (c : ClassId) (k : Class) (i : Nat) (f : Field) (a : Nat) (cell : Cell), U.vm.findClass C = some c ∧ U.fieldFound? C n d = some (c, k, i, f) ∧ f.isStatic = true ∧ k.statics = some a ∧ H[a]? = some cell ∧ cell.vm.isStatics = true ∧ cell.cls = c ∧ f.slot < cell.slots.size ∧ k.staticTypes[f.slot]? = some f.type ∧ ¬ A a
theorem vx_L.moved {C n d : String} {A : Nat → Prop} {u U : State} {H : Heap} (hvm : u.vm.Alike U.vm) (h : vx_L C n d A u H) : vx_L C n d A U H := by
  obtain ⟨c, k, i, f, a, cell, h1, h2, h3, h4, h5, h6, h7, h8, h9, h10⟩ := h
  obtain ⟨k', hi', he⟩ := State.fieldFound?_setVm hvm h2
  exact ⟨c, k', i, f, a, cell, by rw [hvm.findClass]; exact h1, hi', h3, by rw [he]; exact h4, h5, h6, h7, h8, by rw [he]; exact h9, h10⟩
theorem vx_L.kept {C n d : String} {A : Nat → Prop} {U : State} {H H1 : Heap} (h : vx_L C n d A U H) (hq : ∀ a : Nat, a < H.size → ¬ A a → H1[a]? = H[a]?) : vx_L C n d A U H1 := by
  obtain ⟨c, k, i, f, a, cell, h1, h2, h3, h4, h5, h6, h7, h8, h9, h10⟩ := h
  exact ⟨c, k, i, f, a, cell, h1, h2, h3, h4, by rw [hq a (Array.getElem?_eq_some_iff.mp h5).1 h10]; exact h5, h6, h7, h8, h9, h10⟩
theorem vx_L.narrow {C n d : String} {A B : Nat → Prop} {U : State} {H : Heap} (h : vx_L C n d A U H) (hAB : ∀ q, B q → A q) : vx_L C n d B U H := by
  obtain ⟨c, k, i, f, a, cell, h1, h2, h3, h4, h5, h6, h7, h8, h9, h10⟩ := h
  exact ⟨c, k, i, f, a, cell, h1, h2, h3, h4, h5, h6, h7, h8, h9, fun z => h10 (hAB _ z)⟩
theorem vx_L.word {C n d : String} {A : Nat → Prop} {s : State} {args : Array Value} (h : vx_L C n d A s s.heap) : (Cond.laysStatic C n d).before args s = true := by
  obtain ⟨c, k, i, f, a, cell, h1, h2, h3, h4, h5, h6, h7, h8, h9, -⟩ := h
  show (Cond.laysStatic C n d).holds args s none s [] = true
  exact Cond.laysStatic_of h1 h2 h3 h4 h5 h6 h7 h8 h9
/-- .. and what it holds: null or some reference -/
def vx_Zq (C n d : String) (A : Nat → Prop) (U : State) (H : Heap) : Prop := va_Zq C n d A U H ∧ vx_L C n d A U H
theorem vx_Zq.moved {C n d : String} {A : Nat → Prop} {u U : State} {H : Heap} (hvm : u.vm.Alike U.vm) (h : vx_Zq C n d A u H) : vx_Zq C n d A U H := ⟨va_Zq.moved hvm h.1, vx_L.moved hvm h.2⟩
theorem vx_Zq.kept {C n d : String} {A : Nat → Prop} {U : State} {H H1 : Heap} (h : vx_Zq C n d A U H) (hq : ∀ a : Nat, a < H.size → ¬ A a → H1[a]? = H[a]?) : vx_Zq C n d A U H1 := ⟨va_Zq.kept h.1 hq, vx_L.kept h.2 hq⟩
theorem vx_Zq.narrow {C n d : String} {A B : Nat → Prop} {U : State} {H : Heap} (h : vx_Zq C n d A U H) (hAB : ∀ q, B q → A q) : vx_Zq C n d B U H := ⟨va_Zq.narrow h.1 hAB, vx_L.narrow h.2 hAB⟩
theorem vx_Zqof {args : Array Value} {s : State} {C n d : String} {A : Nat → Prop} (hl : (Cond.laysStatic C n d).before args s = true) (hini : (Cond.initialized C).before args s = true) (h : (Cond.isRef (.static C n d)).before args s = true) (hA : ∀ a : Nat, a < s.heap.size → ¬ A a) : vx_Zq C n d A s s.heap := by
  refine ⟨va_Zqof hl hini h hA, ?_⟩
  obtain ⟨c, k, i, f, a, cell, h1, h2, h3, h4, h5, h6, h7, h8, h9⟩ := Cond.laysStatic_spec hl
  exact ⟨c, k, i, f, a, cell, h1, h2, h3, h4, h5, h6, h7, h8, h9, hA a (Array.getElem?_eq_some_iff.mp h5).1⟩
theorem vx_isRef {C n d : String} {v : Value} {A : Nat → Prop} {s : State} {args : Array Value} (h : va_Z C n d v A s s.heap) (hv : v.isRef = true) : (Cond.isRef (.static C n d)).before args s = true := by
  obtain ⟨cf, kf, fi, f, a, cell, h1, h2, h3, h4, h5, h6, h7, -⟩ := h
  have he : (Term.static C n d).eval args s none [] s = some v := by
    simp [Term.eval, State.fieldNamed?, h1, h2, h4, h5, h6, h7]
  simp only [Cond.before, Cond.holds, Cond.value, he]
  cases v <;> simp_all [Value.isRef]
theorem vx_isRefq {C n d : String} {A : Nat → Prop} {s : State} {args : Array Value} (h : va_Zq C n d A s s.heap) : (Cond.isRef (.static C n d)).before args s = true := by
  rcases h with h | ⟨t, h⟩
  · exact vx_isRef h rfl
  · exact vx_isRef h rfl
/-- the same frame, seen from here: as if the method were called anew in this heap -/
theorem vx_rebase {T : State} (X : Stand p l e R s m args below meth c T locs cells slots) {R' : Room} (hf : R'.frames ≤ R.frames) (hl : R'.locals ≤ R.locals) (hc : cells + R'.cells ≤ R.cells) (hs : slots + R'.slots ≤ R.slots) :
    Stand p l e R' ((T.setVm s.vm).setFrames (.invoking m args :: below)) m args below meth c T [] 0 0 := by
  have htop : (T.setVm s.vm).topJava?.isSome := X.here.top
  have hF : ((T.setVm s.vm).setFrames (.invoking m args :: below)).frames = .invoking m args :: below := State.frames_setFrames _ (State.cur_lt_of_top htop)
  obtain ⟨g₀, hg0⟩ := Option.isSome_iff_exists.mp htop
  obtain ⟨r, hr⟩ := State.topJava?_eq_some.mp hg0
  have hl9 : e.platform.stackLimits (T.setVm s.vm).me = e.platform.stackLimits s.me := X.limits
  have hb9 : (T.setVm s.vm).me.stackBytes = s.me.stackBytes := X.bytes
  refine ⟨X.admits, X.cas, X.clock, hF, ?_, X.hears, X.method, X.code, X.here, X.tail, X.warmed, ?_, ?_, ?_⟩
  · have h := X.room
    have hU : ((T.setVm s.vm).setFrames (.invoking m args :: below)).localsInUse = s.localsInUse := by
      rw [State.localsInUse_invoking hF (meth := meth) (c := c) X.method X.code, State.localsInUse_invoking X.frames X.method X.code]
    simp only [State.hasRoom, Bool.and_eq_true, decide_eq_true_eq] at h ⊢
    obtain ⟨⟨⟨⟨h1, h2, h3, h4, h5, h6⟩, h7⟩, h8⟩, h9⟩ := h
    rw [X.frames, List.length_cons] at h2 h3
    have q1 := X.heapSize
    have q2 := X.used
    simp only [hF, hU, List.length_cons, State.stackLimits_setFrames, State.stackBytes_setFrames, hl9, hb9]
    refine ⟨⟨⟨⟨by omega, by omega, by omega, by omega, by omega, h6⟩, ?_⟩, ?_⟩, X.book⟩
    · show T.heap.size + R'.cells ≤ e.platform.maxCells
      omega
    · show T.slotsUsed + R'.slots ≤ e.platform.maxSlots
      omega
  · rw [State.stackLimits_setFrames]; rfl
  · rw [State.stackBytes_setFrames]; rfl
  · refine ⟨?_, Nat.le_refl _, Nat.le_refl _, ?_, ?_, fun a c9 h9 => ⟨c9, h9, rfl, rfl, fun _ _ => rfl⟩⟩
    · obtain ⟨t, ht, -⟩ := State.frames_cons hr
      show T.setVm s.vm = { ((T.setVm s.vm).setFrames (.invoking m args :: below)).setFrames (T.setVm s.vm).frames with heap := T.heap, slotsUsed := T.slotsUsed }
      rw [State.setFrames_setFrames, State.setFrames_self ht]
      rfl
    · show T.slotsUsed = T.slotsUsed + ((T.heap.toList.drop T.heap.size).map (·.slots.size)).sum
      rw [List.drop_eq_nil_of_le (Nat.le_of_eq Array.length_toList)]
      rfl
    · show ((T.heap.toList.drop T.heap.size).map (·.slots.size)).sum ≤ 0
      rw [List.drop_eq_nil_of_le (Nat.le_of_eq Array.length_toList)]
      exact Nat.le_refl _
/-- 'throw new E()': new; dup; invokespecial; athrow -/
theorem vx_throw0 {cc : ByteArray} {pc : Nat} (hexec : p.tables.exec = Jvm.exec) (hb : c.code = cc) (hl : l.stackTraces = false) {own cls : String} {names : List String} {ik ic mc ms : Nat} {A : Nat → Prop}
    (hown : s.vm.findClass own = some m.cls) (hcls : Bundle.fit cls = true) (hnames : ∀ n ∈ names, Bundle.fit n = true)
    (hk : (Cond.classLink own ik cls).before args s = true) (hini : (Cond.initialized cls).before args s = true) (hat : ∀ w ∈ vx_at0 own ic cls names, w.before args s = true)
    (hgood : ∀ w ∈ Cond.classLink own ik cls :: Cond.initialized cls :: vx_at0 own ic cls names, vx_ot w = true)
    (hU : vx_Zq Bundle.tN "UNASSIGNED_STACK" Bundle.steD A s s.heap) (hN : vx_Zq Bundle.tN "SUPPRESSED_SENTINEL" Bundle.listD A s s.heap) (hS : va_S A s.heap H locs) (hsize : ls.size = c.maxLocals)
    (d0 : decode cc pc = .ok (.new ik, 3)) (d3 : decode cc (pc + 3) = .ok (.dup, 1)) (d4 : decode cc (pc + 4) = .ok (.invokespecial ic, 3)) (d7 : decode cc (pc + 7) = .ok (.athrow, 1))
    (hout : ∀ x ∈ c.exceptionTable.toList, covers x (pc + 7) = false)
    (hRframes : names.length + 3 < R.frames) (hRlocals : (rest.map fun v => v.category).sum + (13 * (names.length + 1) + 42) ≤ R.locals) (hRcells : cells + 1 ≤ R.cells) (hRslots : slots + 6 ≤ R.slots) (hlocks : meth.locks = false)
    (hx : ∀ t : State, s.vm.Alike t.vm → H.size ≤ t.heap.size → (∀ q : Nat, q < H.size → t.heap[q]? = H[q]?) → XC cls s t)
    (hf : ∀ z ∈ locs, free z.base) (hc : cells + 1 ≤ mc) (hs : slots + 6 ≤ ms) :
    W p l e R s m args below meth c H locs cells slots (vx_MQ below Qc XC args s mc ms free) (F0 m pc ls rest) := by
  intro T hT X
  have htr : e.platform.stackTraces = false := (show e.platform.stackTraces = l.stackTraces by rw [X.admits.platform]).trans hl
  have Y := vx_rebase X (R' := { frames := R.frames, locals := R.locals, cells := 1, slots := 6 }) (Nat.le_refl _) (Nat.le_refl _) hRcells hRslots
  obtain ⟨s', hA⟩ : ∃ z, z = (T.setVm s.vm).setFrames (.invoking m args :: below) := ⟨_, rfl⟩
  rw [← hA] at Y
  have hvm : s'.vm = s.vm := by rw [hA]; rfl
  have hhp : s'.heap = H := by rw [hA]; exact hT
  have hW0 : s.WarmedH s'.vm := by rw [hvm]; exact State.WarmedH.refl s
  have hat' : ∀ w ∈ vx_at0 own ic cls names, w.before args s' = true := fun w hw => vx_ot_at hW0 hvm.symm (hgood w (List.mem_cons_of_mem _ (List.mem_cons_of_mem _ hw))) (hat w hw)
  have hk' : (Cond.classLink own ik cls).before args s' = true := vx_ot_at hW0 hvm.symm (hgood _ List.mem_cons_self) hk
  have hini' : (Cond.initialized cls).before args s' = true := vx_ot_at hW0 hvm.symm (hgood _ (List.mem_cons_of_mem _ List.mem_cons_self)) hini
  have hU' : vx_Zq Bundle.tN "UNASSIGNED_STACK" Bundle.steD A s' s'.heap := by rw [hhp]; exact vx_Zq.moved hW0.alike (hU.kept hS.2.1)
  have hN' : vx_Zq Bundle.tN "SUPPRESSED_SENTINEL" Bundle.listD A s' s'.heap := by rw [hhp]; exact vx_Zq.moved hW0.alike (hN.kept hS.2.1)
  have h : ∀ w ∈ Bundle.ownAtoms0 own ic cls names, w.before args s' = true := vx_own hat' (vx_isRefq hU'.1) (vx_isRefq hN'.1) hU'.2.word hN'.2.word
  have hown' : s'.vm.findClass own = some m.cls := by rw [hvm]; exact hown
  have hins : (Cond.instantiable cls 6).before args s' = true := h _ (by simp [Bundle.ownAtoms0])
  obtain ⟨vm₁, cX, kX, hfX, hkX, -, -, X₁, st1⟩ := Y.newCold hexec (own := own) (C := cls) (index := ik) (n := 6) hown' hk' hins hini'
    (g := F0 m pc ls rest) rfl (by rw [hb]; exact d0) (Nat.le_refl _) (Nat.le_refl _)
  generalize hT1 : (T.setVm vm₁).pushCell { cls := cX, slots := kX.instanceTypes.map defaultValue, vm := .none } = T1 at X₁ st1
  have hcat : (Value.ref T.heap.size).category = 1 := rfl
  have hcellA : T1.heap[T.heap.size]? = some (freshCell cX kX) := by rw [← hT1]; exact State.heap_pushCell_size _ _
  have d3' : decode c.code (pc + 3) = .ok (.dup, 1) := by rw [hb]; exact d3
  obtain ⟨U, hsteps, hrun, hend, hW, hsame, ce, hce, hO⟩ := X₁.ctorThrow0 hexec htr (own := own) (cls := cls) (names := names) (ic := ic) hown' hcls hnames h (fun x hx => nomatch hx) hfX hkX hcellA (by rw [hhp, hT]; exact Nat.le_refl _)
    (g := { method := m, pc := pc + 4, locals := ls, stack := .ref T.heap.size :: .ref T.heap.size :: rest, locked := none }) rfl hsize rfl rfl (rest := rest) rfl
    (by rw [hb]; exact d4) (by rw [hb]; exact d7) hout hRframes (by simp only [List.map_cons, List.sum_cons, hcat]; omega) hlocks
  obtain ⟨f1, f2⟩ := vx_frame hsame
  rw [hhp] at f1 f2
  have hWs : s.WarmedH U.vm := State.WarmedH.trans hW0 hW
  have hcl : s.vm.findClass cls = some ce.cls := by
    have h9 := hO.cls
    rw [hvm] at h9
    exact h9
  have hall : s.sameButNew ({ U with vm := s.vm } : State) locs mc ms := by
    subst hA
    obtain ⟨e1, e2⟩ := hsame
    rw [State.setFrames_setFrames] at e1
    have h2 : (T.setVm s.vm).sameButNew ({ U with vm := s.vm } : State) [] (0 + 1) (0 + 6) := ⟨e1, e2⟩
    have h3 := X.same.trans h2
    rw [List.append_nil] at h3
    exact h3.mono hc hs
  refine ⟨U, ?_, .threw T.heap.size, hrun, hend, Or.inr ⟨T.heap.size, rfl, cls, ce, locs, hx U hWs.alike f1 (fun q hq => f2 q hq (fun z hz => nomatch hz)), hce, hO.vm, hcl, hWs, hall, hf⟩⟩
  refine st1 _ ?_
  show Steps p.tables e below (T1.setTop { method := m, pc := pc + 3, locals := ls, stack := .ref T.heap.size :: rest, locked := none }) _
  jvm_step X₁.here [X₁.here.top, hexec, d3', Value.category]
  exact hsteps
/-- 'throw new E("text")': new; dup; ldc; invokespecial; athrow -/
theorem vx_throwS {cc : ByteArray} {pc : Nat} (hexec : p.tables.exec = Jvm.exec) (hb : c.code = cc) (hl : l.stackTraces = false) {own cls text : String} {names : List String} {ik is ic mc ms sa : Nat} {A : Nat → Prop}
    (hown : s.vm.findClass own = some m.cls) (hcls : Bundle.fit cls = true) (hnames : ∀ n ∈ names, Bundle.fit n = true)
    (hk : (Cond.classLink own ik cls).before args s = true) (hini : (Cond.initialized cls).before args s = true) (hstr : vk_R own is text sa s) (hat : ∀ w ∈ vx_atS own ic cls names, w.before args s = true)
    (hgood : ∀ w ∈ Cond.classLink own ik cls :: Cond.initialized cls :: vx_atS own ic cls names, vx_ot w = true)
    (hU : vx_Zq Bundle.tN "UNASSIGNED_STACK" Bundle.steD A s s.heap) (hN : vx_Zq Bundle.tN "SUPPRESSED_SENTINEL" Bundle.listD A s s.heap) (hS : va_S A s.heap H locs) (hsize : ls.size = c.maxLocals)
    (d0 : decode cc pc = .ok (.new ik, 3)) (d3 : decode cc (pc + 3) = .ok (.dup, 1)) (d4 : decode cc (pc + 4) = .ok (.ldc is, 2)) (d6 : decode cc (pc + 6) = .ok (.invokespecial ic, 3)) (d9 : decode cc (pc + 9) = .ok (.athrow, 1))
    (hout : ∀ x ∈ c.exceptionTable.toList, covers x (pc + 9) = false)
    (hRframes : names.length + 3 < R.frames) (hRlocals : (rest.map fun v => v.category).sum + (13 * (names.length + 1) + 43) ≤ R.locals) (hRcells : cells + 1 ≤ R.cells) (hRslots : slots + 6 ≤ R.slots) (hlocks : meth.locks = false)
    (hx : ∀ t : State, s.vm.Alike t.vm → H.size ≤ t.heap.size → (∀ q : Nat, q < H.size → t.heap[q]? = H[q]?) → XC cls s t)
    (hf : ∀ z ∈ locs, free z.base) (hc : cells + 1 ≤ mc) (hs : slots + 6 ≤ ms) :
    W p l e R s m args below meth c H locs cells slots (vx_MQ below Qc XC args s mc ms free) (F0 m pc ls rest) := by
  intro T hT X
  have htr : e.platform.stackTraces = false := (show e.platform.stackTraces = l.stackTraces by rw [X.admits.platform]).trans hl
  have Y := vx_rebase X (R' := { frames := R.frames, locals := R.locals, cells := 1, slots := 6 }) (Nat.le_refl _) (Nat.le_refl _) hRcells hRslots
  obtain ⟨s', hA⟩ : ∃ z, z = (T.setVm s.vm).setFrames (.invoking m args :: below) := ⟨_, rfl⟩
  rw [← hA] at Y
  have hvm : s'.vm = s.vm := by rw [hA]; rfl
  have hhp : s'.heap = H := by rw [hA]; exact hT
  have hW0 : s.WarmedH s'.vm := by rw [hvm]; exact State.WarmedH.refl s
  have hat' : ∀ w ∈ vx_atS own ic cls names, w.before args s' = true := fun w hw => vx_ot_at hW0 hvm.symm (hgood w (List.mem_cons_of_mem _ (List.mem_cons_of_mem _ hw))) (hat w hw)
  have hk' : (Cond.classLink own ik cls).before args s' = true := vx_ot_at hW0 hvm.symm (hgood _ List.mem_cons_self) hk
  have hini' : (Cond.initialized cls).before args s' = true := vx_ot_at hW0 hvm.symm (hgood _ (List.mem_cons_of_mem _ List.mem_cons_self)) hini
  have hU' : vx_Zq Bundle.tN "UNASSIGNED_STACK" Bundle.steD A s' s'.heap := by rw [hhp]; exact vx_Zq.moved hW0.alike (hU.kept hS.2.1)
  have hN' : vx_Zq Bundle.tN "SUPPRESSED_SENTINEL" Bundle.listD A s' s'.heap := by rw [hhp]; exact vx_Zq.moved hW0.alike (hN.kept hS.2.1)
  have h : ∀ w ∈ Bundle.ownAtoms own ic cls names, w.before args s' = true := vx_own hat' (vx_isRefq hU'.1) (vx_isRefq hN'.1) hU'.2.word hN'.2.word
  have hown' : s'.vm.findClass own = some m.cls := by rw [hvm]; exact hown
  have hins : (Cond.instantiable cls 6).before args s' = true := h _ (by simp [Bundle.ownAtoms])
  obtain ⟨vm₁, cX, kX, hfX, hkX, -, -, X₁, st1⟩ := Y.newCold hexec (own := own) (C := cls) (index := ik) (n := 6) hown' hk' hins hini'
    (g := F0 m pc ls rest) rfl (by rw [hb]; exact d0) (Nat.le_refl _) (Nat.le_refl _)
  generalize hT1 : (T.setVm vm₁).pushCell { cls := cX, slots := kX.instanceTypes.map defaultValue, vm := .none } = T1 at X₁ st1
  have hcat : (Value.ref T.heap.size).category = 1 := rfl
  have hcellA : T1.heap[T.heap.size]? = some (freshCell cX kX) := by rw [← hT1]; exact State.heap_pushCell_size _ _
  have d3' : decode c.code (pc + 3) = .ok (.dup, 1) := by rw [hb]; exact d3
  have d4' : decode c.code (pc + 4) = .ok (.ldc is, 2) := by rw [hb]; exact d4
  have hstr' : vk_R own is text sa s' := vk_R.warm hW0 hstr
  obtain ⟨U, hsteps, hrun, hend, hW, hsame, ce, hce, hO⟩ := X₁.ctorThrowS hexec htr (own := own) (cls := cls) (names := names) (ic := ic) hown' hcls hnames h (fun x hx => nomatch hx) hfX hkX hcellA (by rw [hhp, hT]; exact Nat.le_refl _) (msg := .ref sa) rfl
    (g := { method := m, pc := pc + 6, locals := ls, stack := .ref sa :: .ref T.heap.size :: .ref T.heap.size :: rest, locked := none }) rfl hsize rfl rfl (rest := rest) rfl
    (by rw [hb]; exact d6) (by rw [hb]; exact d9) hout hRframes (by simp only [List.map_cons, List.sum_cons, hcat]; omega) hlocks
  obtain ⟨f1, f2⟩ := vx_frame hsame
  rw [hhp] at f1 f2
  have hWs : s.WarmedH U.vm := State.WarmedH.trans hW0 hW
  have hcl : s.vm.findClass cls = some ce.cls := by
    have h9 := hO.cls
    rw [hvm] at h9
    exact h9
  have hall : s.sameButNew ({ U with vm := s.vm } : State) locs mc ms := by
    subst hA
    obtain ⟨e1, e2⟩ := hsame
    rw [State.setFrames_setFrames] at e1
    have h2 : (T.setVm s.vm).sameButNew ({ U with vm := s.vm } : State) [] (0 + 1) (0 + 6) := ⟨e1, e2⟩
    have h3 := X.same.trans h2
    rw [List.append_nil] at h3
    exact h3.mono hc hs
  refine ⟨U, ?_, .threw T.heap.size, hrun, hend, Or.inr ⟨T.heap.size, rfl, cls, ce, locs, hx U hWs.alike f1 (fun q hq => f2 q hq (fun z hz => nomatch hz)), hce, hO.vm, hcl, hWs, hall, hf⟩⟩
  refine st1 _ ?_
  show Steps p.tables e below (T1.setTop { method := m, pc := pc + 3, locals := ls, stack := .ref T.heap.size :: rest, locked := none }) _
  jvm_step X₁.here [X₁.here.top, hexec, d3', Value.category]
  exact X₁.ldcString hexec (own := own) (text := text) (index := is) (a := sa) hown' hstr'.1 hstr'.2
    (g := { method := m, pc := pc + 4, locals := ls, stack := .ref T.heap.size :: .ref T.heap.size :: rest, locked := none }) rfl d4' _ hsteps
/-- 'throw new E("text")', the text by a wide index -/
theorem vx_throwSW {cc : ByteArray} {pc : Nat} (hexec : p.tables.exec = Jvm.exec) (hb : c.code = cc) (hl : l.stackTraces = false) {own cls text : String} {names : List String} {ik is ic mc ms sa : Nat} {A : Nat → Prop}
    (hown : s.vm.findClass own = some m.cls) (hcls : Bundle.fit cls = true) (hnames : ∀ n ∈ names, Bundle.fit n = true)
    (hk : (Cond.classLink own ik cls).before args s = true) (hini : (Cond.initialized cls).before args s = true) (hstr : vk_R own is text sa s) (hat : ∀ w ∈ vx_atS own ic cls names, w.before args s = true)
    (hgood : ∀ w ∈ Cond.classLink own ik cls :: Cond.initialized cls :: vx_atS own ic cls names, vx_ot w = true)
    (hU : vx_Zq Bundle.tN "UNASSIGNED_STACK" Bundle.steD A s s.heap) (hN : vx_Zq Bundle.tN "SUPPRESSED_SENTINEL" Bundle.listD A s s.heap) (hS : va_S A s.heap H locs) (hsize : ls.size = c.maxLocals)
    (d0 : decode cc pc = .ok (.new ik, 3)) (d3 : decode cc (pc + 3) = .ok (.dup, 1)) (d4 : decode cc (pc + 4) = .ok (.ldc_w is, 3)) (d7 : decode cc (pc + 7) = .ok (.invokespecial ic, 3)) (d10 : decode cc (pc + 10) = .ok (.athrow, 1))
    (hout : ∀ x ∈ c.exceptionTable.toList, covers x (pc + 10) = false)
    (hRframes : names.length + 3 < R.frames) (hRlocals : (rest.map fun v => v.category).sum + (13 * (names.length + 1) + 43) ≤ R.locals) (hRcells : cells + 1 ≤ R.cells) (hRslots : slots + 6 ≤ R.slots) (hlocks : meth.locks = false)
    (hx : ∀ t : State, s.vm.Alike t.vm → H.size ≤ t.heap.size → (∀ q : Nat, q < H.size → t.heap[q]? = H[q]?) → XC cls s t)
    (hf : ∀ z ∈ locs, free z.base) (hc : cells + 1 ≤ mc) (hs : slots + 6 ≤ ms) :
    W p l e R s m args below meth c H locs cells slots (vx_MQ below Qc XC args s mc ms free) (F0 m pc ls rest) := by
  intro T hT X
  have htr : e.platform.stackTraces = false := (show e.platform.stackTraces = l.stackTraces by rw [X.admits.platform]).trans hl
  have Y := vx_rebase X (R' := { frames := R.frames, locals := R.locals, cells := 1, slots := 6 }) (Nat.le_refl _) (Nat.le_refl _) hRcells hRslots
  obtain ⟨s', hA⟩ : ∃ z, z = (T.setVm s.vm).setFrames (.invoking m args :: below) := ⟨_, rfl⟩
  rw [← hA] at Y
  have hvm : s'.vm = s.vm := by rw [hA]; rfl
  have hhp : s'.heap = H := by rw [hA]; exact hT
  have hW0 : s.WarmedH s'.vm := by rw [hvm]; exact State.WarmedH.refl s
  have hat' : ∀ w ∈ vx_atS own ic cls names, w.before args s' = true := fun w hw => vx_ot_at hW0 hvm.symm (hgood w (List.mem_cons_of_mem _ (List.mem_cons_of_mem _ hw))) (hat w hw)
  have hk' : (Cond.classLink own ik cls).before args s' = true := vx_ot_at hW0 hvm.symm (hgood _ List.mem_cons_self) hk
  have hini' : (Cond.initialized cls).before args s' = true := vx_ot_at hW0 hvm.symm (hgood _ (List.mem_cons_of_mem _ List.mem_cons_self)) hini
  have hU' : vx_Zq Bundle.tN "UNASSIGNED_STACK" Bundle.steD A s' s'.heap := by rw [hhp]; exact vx_Zq.moved hW0.alike (hU.kept hS.2.1)
  have hN' : vx_Zq Bundle.tN "SUPPRESSED_SENTINEL" Bundle.listD A s' s'.heap := by rw [hhp]; exact vx_Zq.moved hW0.alike (hN.kept hS.2.1)
  have h : ∀ w ∈ Bundle.ownAtoms own ic cls names, w.before args s' = true := vx_own hat' (vx_isRefq hU'.1) (vx_isRefq hN'.1) hU'.2.word hN'.2.word
  have hown' : s'.vm.findClass own = some m.cls := by rw [hvm]; exact hown
  have hins : (Cond.instantiable cls 6).before args s' = true := h _ (by simp [Bundle.ownAtoms])
  obtain ⟨vm₁, cX, kX, hfX, hkX, -, -, X₁, st1⟩ := Y.newCold hexec (own := own) (C := cls) (index := ik) (n := 6) hown' hk' hins hini'
    (g := F0 m pc ls rest) rfl (by rw [hb]; exact d0) (Nat.le_refl _) (Nat.le_refl _)
  generalize hT1 : (T.setVm vm₁).pushCell { cls := cX, slots := kX.instanceTypes.map defaultValue, vm := .none } = T1 at X₁ st1
  have hcat : (Value.ref T.heap.size).category = 1 := rfl
  have hcellA : T1.heap[T.heap.size]? = some (freshCell cX kX) := by rw [← hT1]; exact State.heap_pushCell_size _ _
  have d3' : decode c.code (pc + 3) = .ok (.dup, 1) := by rw [hb]; exact d3
  have d4' : decode c.code (pc + 4) = .ok (.ldc_w is, 3) := by rw [hb]; exact d4
  have hstr' : vk_R own is text sa s' := vk_R.warm hW0 hstr
  obtain ⟨U, hsteps, hrun, hend, hW, hsame, ce, hce, hO⟩ := X₁.ctorThrowS hexec htr (own := own) (cls := cls) (names := names) (ic := ic) hown' hcls hnames h (fun x hx => nomatch hx) hfX hkX hcellA (by rw [hhp, hT]; exact Nat.le_refl _) (msg := .ref sa) rfl
    (g := { method := m, pc := pc + 7, locals := ls, stack := .ref sa :: .ref T.heap.size :: .ref T.heap.size :: rest, locked := none }) rfl hsize rfl rfl (rest := rest) rfl
    (by rw [hb]; exact d7) (by rw [hb]; exact d10) hout hRframes (by simp only [List.map_cons, List.sum_cons, hcat]; omega) hlocks
  obtain ⟨f1, f2⟩ := vx_frame hsame
  rw [hhp] at f1 f2
  have hWs : s.WarmedH U.vm := State.WarmedH.trans hW0 hW
  have hcl : s.vm.findClass cls = some ce.cls := by
    have h9 := hO.cls
    rw [hvm] at h9
    exact h9
  have hall : s.sameButNew ({ U with vm := s.vm } : State) locs mc ms := by
    subst hA
    obtain ⟨e1, e2⟩ := hsame
    rw [State.setFrames_setFrames] at e1
    have h2 : (T.setVm s.vm).sameButNew ({ U with vm := s.vm } : State) [] (0 + 1) (0 + 6) := ⟨e1, e2⟩
    have h3 := X.same.trans h2
    rw [List.append_nil] at h3
    exact h3.mono hc hs
  refine ⟨U, ?_, .threw T.heap.size, hrun, hend, Or.inr ⟨T.heap.size, rfl, cls, ce, locs, hx U hWs.alike f1 (fun q hq => f2 q hq (fun z hz => nomatch hz)), hce, hO.vm, hcl, hWs, hall, hf⟩⟩
  refine st1 _ ?_
  show Steps p.tables e below (T1.setTop { method := m, pc := pc + 3, locals := ls, stack := .ref T.heap.size :: rest, locked := none }) _
  jvm_step X₁.here [X₁.here.top, hexec, d3', Value.category]
  exact X₁.ldcStringW hexec (own := own) (text := text) (index := is) (a := sa) hown' hstr'.1 hstr'.2
    (g := { method := m, pc := pc + 4, locals := ls, stack := .ref T.heap.size :: .ref T.heap.size :: rest, locked := none }) rfl d4' _ hsteps
end Ends
section Bodies
variable {l : Launch}
theorem vx_ofW {y : MethodName} {ws ws' : List Cond} {rm : Room} {Pc : Array Value → State → Prop} {Qc : Array Value → State → Outcome → State → Prop} {XC : String → State → State → Prop} {mc ms : Nat} {free : Addr → Prop} {cc : ByteArray} {maxL : Nat} {ret : Option FieldType}
    (hy : plainName y.cls = true) (hw : ws = Cond.code y cc maxL ret :: ws')
    (body : ∀ p e s m args below meth c s₁, BodyLoose p l y (headSpec ws rm) cc maxL ret e s m args below meth c s₁ → c.maxLocals = maxL → (∀ x ∈ c.exceptionTable.toList, False) → Pc args s →
      W p l e (headSpec ws rm).room s m args below meth c s.heap [] 0 0 (vx_MQ below Qc XC args s mc ms free) (entryFrame m args maxL)) : vx_Met l y ws rm Pc Qc XC mc ms free := by
  refine MetFree.of_bodyS (code := cc) (maxLocals := maxL) (ret := ret) hy ?_ ?_
  · intro args s m h hn
    obtain ⟨meth, c, h1, h2, h3, h4, h5, h6, -, -⟩ := Cond.code_spec hn (atoms_spec (ws := ws) h _ (by rw [hw]; exact List.mem_cons_self))
    exact ⟨meth, c, h1, h2, h3, h4, h5, h6⟩
  · intro p e s m args below meth c s₁ B hml hP _
    have hh0 : s₁.heap = s.heap := by rw [B.state]; rfl
    have ht : ∀ x ∈ c.exceptionTable.toList, False := by
      obtain ⟨meth9, c9, h1, h2, -, -, -, -, h7, -⟩ := Cond.code_spec B.named (atoms_spec (ws := ws) B.pre _ (by rw [hw]; exact List.mem_cons_self))
      cases Option.some.inj (h1.symm.trans B.method)
      cases Option.some.inj (h2.symm.trans (Stand.of_body B).code)
      intro x hx
      rw [Array.isEmpty_iff.mp h7] at hx
      cases hx
    obtain ⟨t, a1, o, b1, b2, b3⟩ := body p e s m args below meth c s₁ B hml ht hP s₁ hh0 (Stand.of_body B)
    exact ⟨t, o, a1, b1, b2, b3⟩
/-- the table of a body with handlers -/
theorem vx_table {p : Program} {x y : MethodName} {S : Spec} {cc bytes : ByteArray} {maxL maxL' : Nat} {ret ret' : Option FieldType} {e : Env} {s s₁ : State} {m : MethodId} {args : Array Value} {below : List Frame} {meth : Method} {c : Code} {hh : List (Nat × Nat × Nat × Nat)}
    (B : BodyLoose p l y S cc maxL ret e s m args below meth c s₁) (h : (Cond.codeWith y bytes maxL' ret' hh).before args s = true) : c.exceptionTable.toList = tableOf hh := by
  obtain ⟨m9, meth9, c9, hn9, h1, h2, -, -, h6, -⟩ := Cond.codeWith_spec h
  cases Option.some.inj (hn9.symm.trans B.named)
  cases Option.some.inj (h1.symm.trans B.method)
  cases Option.some.inj (h2.symm.trans (Stand.of_body B).code)
  rw [← h6, table_eq]
end Bodies
end VXA
/-! ===== END ===== -/
/-! ===== BEGIN a static call of a method with an exception table ===== -/
section VXS
variable {p : Program} {l : Launch} {e : Env} {R : Room} {s : State} {m : MethodId} {args : Array Value} {below : List Frame} {meth : Method} {c : Code} {T : State} {H : Heap} {locs : List Loc} {cells slots : Nat}
abbrev vx_CSW (R : Room) (s : State) (args : Array Value) (own : String) (index : Nat) (y : MethodName) (bytes : ByteArray) (maxL : Nat) (ret : Option FieldType) (hh : List (Nat × Nat × Nat × Nat)) (ws : List Cond) (rm : Room) (mc ms n : Nat) : Prop :=
  (rm.cells = mc ∧ rm.slots = ms ∧ rm.frames + 1 ≤ R.frames ∧ 8 + (maxL + 11) + rm.locals ≤ R.locals ∧ (∀ w ∈ ws, ∀ (a' : Array Value) (U : State), s.WarmedH U.vm → w.before a' U = true) ∧ Cond.codeWith y bytes maxL ret hh ∈ ws) ∧
  (Cond.codeWith y bytes maxL ret hh).before args s = true ∧ (Cond.initialized y.cls).before args s = true ∧ (y.cls ≠ "java/lang/invoke/MethodHandle" ∧ y.cls ≠ "java/lang/invoke/VarHandle") ∧
  (∀ sig, parseMethodDescriptor y.desc = some sig → n = sig.parameters.length) ∧ (Cond.methodLink own index y).before args s = true ∧ (Cond.static y).before args s = true
theorem vx_cwSW {own : String} {index maxL mc ms : Nat} {y : MethodName} {bytes : ByteArray} {ret : Option FieldType} {hh : List (Nat × Nat × Nat × Nat)} {Ts ws ws' : List Cond} {rm : Room} (n : Nat) (ht : ∀ w ∈ Ts, w.before args s = true) (hT : GoodIn Ts (va_wsS own index y ws)) (hw : ws = Cond.codeWith y bytes maxL ret hh :: ws') (hrc : rm.cells = mc) (hrs : rm.slots = ms)
    (hd : y.cls ≠ "java/lang/invoke/MethodHandle" ∧ y.cls ≠ "java/lang/invoke/VarHandle" ∧ (parseMethodDescriptor y.desc).map (fun d => d.parameters.length) = some n) (hR : rm.frames + 1 ≤ R.frames ∧ 8 + (maxL + 11) + rm.locals ≤ R.locals) :
    vx_CSW R s args own index y bytes maxL ret hh ws rm mc ms n := by
  have ok : ∀ w ∈ va_wsS own index y ws, w.before args s = true := fun w h => ht w (hT w h).1
  have hG : GoodIn Ts ws := fun w h => hT w (by unfold va_wsS; exact List.mem_append_right _ h)
  have hc : Cond.codeWith y bytes maxL ret hh ∈ ws := by rw [hw]; exact List.mem_cons_self
  refine ⟨⟨hrc, hrs, hR.1, hR.2, pay_in ht hG, hc⟩, ht _ (hG _ hc).1, ok _ (by simp [va_wsS]), ⟨hd.1, hd.2.1⟩, fun sig h => ?_, ok _ (by simp [va_wsS]), ok _ (by simp [va_wsS])⟩
  have h2 := hd.2.2
  rw [h] at h2
  exact (Option.some.inj h2).symm
theorem vx_callSW (X : Stand p l e R s m args below meth c T locs cells slots) (hexec : p.tables.exec = Jvm.exec) {own : String} {index : Nat} {y : MethodName} {bytes : ByteArray} {maxL : Nat} {ret : Option FieldType} {hh : List (Nat × Nat × Nat × Nat)}
    (hown : s.vm.findClass own = some m.cls) (hlink : (Cond.methodLink own index y).before args s = true) (hstat : (Cond.static y).before args s = true) (hinit : (Cond.initialized y.cls).before args s = true)
    (hcode : (Cond.codeWith y bytes maxL ret hh).before args s = true) (hy : y.cls ≠ "java/lang/invoke/MethodHandle" ∧ y.cls ≠ "java/lang/invoke/VarHandle")
    {W9 : Nat} {Pre : Pt → Array Value → Prop} {Post : Pt → Array Value → Option Value → Pt → Prop} (hK : Back l R p e below s args y 3 W9 Pre Post)
    {g : JFrame} (hg : g.method = m) (hsize : g.locals.size = c.maxLocals) {argsL rest : List Value} (hlen : ∀ sig, parseMethodDescriptor y.desc = some sig → argsL.length = sig.parameters.length)
    (hstack : g.stack = argsL.reverse ++ rest) (hW : 2 * g.monitorRoom + (rest.map fun v => v.category).sum ≤ W9) (hdg : decode c.code g.pc = .ok (.invokestatic index, 3))
    (hpre : ∀ vm₁, s.WarmedH vm₁ → Pre ⟨T.setVm vm₁, locs, cells, slots⟩ argsL.toArray) :
    ∃ (v : Option Value) (vm₁ : Vm) (B : Pt), s.WarmedH vm₁ ∧ Stand p l e R s m args below meth c B.U B.locs B.cells B.slots ∧ Post ⟨T.setVm vm₁, locs, cells, slots⟩ argsL.toArray v B ∧
      ∀ target, Steps p.tables e below (B.U.setTop { g with pc := g.pc + 3, stack := v.toList ++ rest }) target → Steps p.tables e below (T.setTop g) target := by
  obtain ⟨mk, methM, cM, hnamed, hmethM, -, -, -, -, -, -, hsigM⟩ := Cond.codeWith_spec hcode
  have hstatic : methM.isStatic = true := Cond.static_spec hnamed hmethM hstat
  obtain ⟨kP, hkP, -⟩ := className_of_methodNamed hnamed
  have hinitP : kP.init = .initialized := Cond.initialized_spec (findClass_of_methodNamed hnamed) hkP hinit
  obtain ⟨vm₁, X₁, hstep₁⟩ := X.invokestatic hexec hown hlink hnamed hmethM hstatic hkP hinitP hy (g := g) hg (argsL := argsL) (rest := rest) (hlen _ hsigM) hstack hdg
  obtain ⟨v, B, X', hpost, hsteps⟩ := hK m meth c ⟨T.setVm vm₁, locs, cells, slots⟩ { g with stack := rest } (.invokestatic index) mk argsL.toArray X₁ hg hsize hdg hW (X₁.named hnamed) (hpre vm₁ X₁.warmed)
  exact ⟨v, vm₁, B, X₁.warmed, X', hpost, fun target h => hstep₁ _ fun acts => by rw [doInvoke_state]; exact hsteps.trans h⟩
theorem vx_runSW {y : MethodName} {bytes cc : ByteArray} {maxL nL mc ms n index : Nat} {ret : Option FieldType} {hh : List (Nat × Nat × Nat × Nat)} {ws : List Cond} {rm : Room} {Pc : Array Value → State → Prop} {Qc : Array Value → State → Outcome → State → Prop} {free : Addr → Prop} {Ts : List Cond} {own : String} {As rest : List Value} {g : JFrame}
    (S : CallFix p m c cc nL s args Ts own) (hM : Met l y ws rm Pc Qc mc ms free) (cw : vx_CSW R s args own index y bytes maxL ret hh ws rm mc ms n) (hp : PreS s H Pc As)
    (hg : g.method = m) (hn : As.length = n) (hsize : g.locals.size = nL) (hstack : g.stack = As.reverse ++ rest) (hW : 2 * g.monitorRoom + (rest.map fun v => v.category).sum ≤ 8) (hdg : decode cc g.pc = .ok (.invokestatic index, 3)) (hf : cells + mc ≤ R.cells ∧ slots + ms ≤ R.slots) :
    va_Run p l e R s m args below meth c H locs cells slots mc ms g rest (Qc As.toArray) (free) := by
  obtain ⟨⟨hrc, hrs, hfr, hlo, hws, hcw⟩, hcode, hini, hy, hlen, hl, hstt⟩ := cw
  have hK : Back l R p e below s args y 3 8 (PreOf R mc ms Pc) (PostOf Qc mc ms free) := va_backW (hh := hh) (bytes := bytes) (maxL := maxL) (ret := ret) hM hp.1 hrc hrs hfr hlo hws hcw (fun a' U hW => word_at hW (Or.inl (by first | rfl | simp [Cond.onTables, Cond.keeps, Cond.steady])) hini)
  obtain ⟨hx, hb, hml, ho, -⟩ := S
  intro T hT X
  obtain ⟨v, vm₁, ⟨U', l2, c2, s2⟩, hW₁, X', ⟨g', mk, t, L, e1, e2, hq, h1, hL, h2, h3⟩, st⟩ := vx_callSW X hx (hh := hh) (bytes := bytes) (maxL := maxL) (ret := ret) ho hl hstt hini hcode hy hK hg (hsize.trans hml.symm) (argsL := As) (rest := rest) (fun sig h => hn.trans (hlen sig h)) hstack hW (by rw [hb]; exact hdg)
    (fun vm₁ hW₁ => ⟨hf.1, hf.2, hp.2 (T.setVm vm₁) hT hW₁⟩)
  dsimp only [Pt.U, Pt.locs, Pt.cells, Pt.slots] at X' e1 e2 h1 h2 h3 st
  subst h1; subst h2; subst h3
  exact ⟨v, (T.setVm vm₁).calling g' mk As.toArray, t, U', L, hT, X', hL, e1, e2, hq, st⟩
/-- not caught here, past rows that name other classes: it goes on to the caller -/
theorem vx_outP {p : Program} {l : Launch} {e : Env} {R : Room} {s : State} {m : MethodId} {args : Array Value} {below : List Frame} {meth : Method} {c : Code} {H : Heap} {locs : List Loc} {cells slots : Nat} {free : Addr → Prop} {ls : Array Slot} {rest : List Value} {Qc : Array Value → State → Outcome → State → Prop} {XC : String → State → State → Prop}
    {pc : Nat} {own E : String} {ce : Cell} {q : Addr} {mc ms : Nat} (hown : s.vm.findClass own = some m.cls) (hlocks : meth.locks = false)
    (hpass : ∀ z ∈ c.exceptionTable.toList, covers z pc = false ∨ (z.catchType ≠ 0 ∧ ∃ nm : String, (Cond.classLink own z.catchType nm).before args s = true ∧ va_Nc E nm s)) (hcell : H[q]? = some ce) (hv : ce.vm = .none) (hcl : s.vm.findClass E = some ce.cls)
    (hx : ∀ t : State, t.heap = H → s.vm.Alike t.vm → XC E s t) (hf : ∀ z ∈ locs, free z.base) (hc : cells ≤ mc) (hs : slots ≤ ms) :
    vx_W p l e R s m args below meth c H locs cells slots (vx_MQ below Qc XC args s mc ms free) (F0 m pc ls rest) q := by
  intro T hT X
  have hpl : e.platform.magicAccessors = ({} : Platform).magicAccessors := by rw [X.admits.platform]
  obtain ⟨vm', hW', X', st⟩ := X.outThrough hlocks q (g := F0 m pc ls rest) rfl rfl rfl (cell := ce) (by rw [hT]; exact hcell) (by rw [hv]; rfl)
    (by obtain ⟨k9, h9, -⟩ := Vm.findClass_spec hcl; exact ⟨k9, h9⟩) (fun z hz => by
      rcases hpass z hz with h | ⟨hz0, nm, hl1, hn1⟩
      · exact Or.inl h
      · obtain ⟨c6, hc6, hcl6⟩ := Cond.classLink_spec hown hl1 e.platform hpl
        obtain ⟨a8, b8, h1, h2, h3⟩ := hn1
        cases Option.some.inj (h1.symm.trans hcl)
        cases Option.some.inj (h2.symm.trans hc6)
        exact Or.inr ⟨hz0, _, hcl6, h3⟩)
  obtain ⟨g₀, hfr⟩ := X'.frames_eq
  have hcell9 : ((T.setVm vm').setFrames (.throwing q :: below)).heap[q]? = some ce := by
    show T.heap[q]? = some ce
    rw [hT]; exact hcell
  have hend : Ended ((T.setVm vm').setFrames (.throwing q :: below)) below (.threw q) := State.frames_setFrames _ (State.cur_lt_of_frames hfr)
  refine ⟨(T.setVm vm').setFrames (.throwing q :: below), ?_, .threw q, X'.here.running, hend, Or.inr ⟨q, rfl, E, ce, locs, hx _ hT (X'.ends _).1.alike, hcell9, hv, hcl, (X'.ends _).1, (X'.ends _).2.mono hc hs, hf⟩⟩
  rw [X.pushThrowing_eq]
  exact st
/-- a thing of a world lies in the heap -/
theorem vx_lt {D : va_G} {cl : List vw_C} {ws : va_W} {H1 : Heap} (h : va_P D cl ws H1) {k : Nat} {q : Nat × va_E} (hk : ws[k]? = some q) : q.1 < H1.size := (h k q hk).lt
end VXS
/-! ===== END ===== -/
/-! ===== BEGIN methods with a table of their own: called by a name, returning or throwing ===== -/
section VXH
/-! vx_backW, vx_callVX, vx_callSX, vx_callVW, vx_runVW, vx_runVX, vx_runSX, vx_ofWH follow the same proofs as their sisters above (Free/Laws.lean, Shelf42/LK1.lean); vx_outP calls Shelf42/NT130.lean (outThrough). -/
section
variable {l : Launch} {R : Room} {p : Program} {e : Env} {below : List Frame} {s : State} {sargs : Array Value} {y : MethodName} {len W9 : Nat}
theorem vx_backW {ws : List Cond} {rm : Room} {Pc : Array Value → State → Prop} {Qc : Array Value → State → Outcome → State → Prop} {XC : String → State → State → Prop} {mc ms : Nat} {free : Addr → Prop} {bytes : ByteArray} {maxL : Nat} {ret : Option FieldType} {hh : List (Nat × Nat × Nat × Nat)}
    (hM : vx_Met l y ws rm Pc Qc XC mc ms free) (hblind : FrameBlind Pc) (hrc : rm.cells = mc) (hrs : rm.slots = ms)
    (hframes : rm.frames + 1 ≤ R.frames) (hlocals : W9 + (maxL + 11) + rm.locals ≤ R.locals)
    (hws : ∀ w ∈ ws, ∀ a' U, s.WarmedH U.vm → w.before a' U = true) (hcode : Cond.codeWith y bytes maxL ret hh ∈ ws) (hinit : ∀ a' U, s.WarmedH U.vm → (Cond.initialized y.cls).before a' U = true) :
    vx_Back l R p e below s sargs y len W9 (PreOf R mc ms Pc) (PostOf Qc mc ms free) (vx_Post XC mc ms free) := by
  intro m meth c A g ig mk a X hg hsize hdg hW hn hp
  have h1 : (headSpec ws rm).pre.before a A.U = true := atoms_intro fun w hw => hws w hw _ _ X.warmed
  have h2 : (Cond.codeWith y bytes maxL ret hh).before a A.U = true := hws _ hcode _ _ X.warmed
  have h3 : (Cond.initialized y.cls).before a A.U = true := hinit _ _ X.warmed
  have h4 : A.cells + (headSpec ws rm).room.cells ≤ R.cells := by rw [show (headSpec ws rm).room.cells = mc from hrc]; exact hp.1
  have h5 : A.slots + (headSpec ws rm).room.slots ≤ R.slots := by rw [show (headSpec ws rm).room.slots = ms from hrs]; exact hp.2.1
  have hPc : Pc a (A.U.calling g mk a) := hblind _ _ _ _ hp.2.2
  obtain ⟨U, Ls, c0, s0⟩ := A
  dsimp only [Pt.U, Pt.locs, Pt.cells, Pt.slots] at h1 h2 h3 h4 h5 X hn hPc ⊢
  obtain ⟨m9, methY, cY, hn9, hmY, hcY, -, hlY, -⟩ := Cond.codeWith_spec h2
  cases Option.some.inj (hn9.symm.trans hn)
  obtain ⟨kY, hkY, -⟩ := className_of_methodNamed hn
  have hinitY : kY.init = .initialized := Cond.initialized_spec (findClass_of_methodNamed hn) hkY h3
  have h : At U g.method c below := by rw [hg]; exact X.here
  have hlocals9 : W9 + (maxL + 11) + (headSpec ws rm).room.locals ≤ R.locals := hlocals
  have happ : (headSpec ws rm).appliesLoose y e.platform (U.calling g mk a) = true :=
    Spec.appliesLoose_calling (g := g) h hdg hn hkY hinitY
      (X.room_calling (g := g) (R' := (headSpec ws rm).room) hsize hmY hcY hframes (by rw [hlY]; omega) h4 h5) h1
  obtain ⟨mid, hmid⟩ := h.above
  have hfr : (U.setTop g).frames = (.java g :: mid) ++ below := by rw [State.frames_setTop' g h.top, hmid]; rfl
  obtain ⟨o, s₂, hsteps, -, hend, hq⟩ := Steps.callFree hM p X.admits X.cas X.clock (acts := []) hfr happ hPc trivial
  have hq' : vx_Q Qc XC mc ms free a (U.calling g mk a) o s₂ := hq
  rw [State.frames_setTop' g h.top] at hend
  obtain ⟨g₀, hg0⟩ := Option.isSome_iff_exists.mp h.top
  obtain ⟨r, hr⟩ := State.topJava?_eq_some.mp hg0
  have hr' : (({ U with heap := s₂.heap, slotsUsed := s₂.slotsUsed } : State).setVm s₂.vm).frames = .java g₀ :: r := hr
  rcases hq' with ⟨hqc, L, hfe, hL⟩ | ⟨q, rfl, E, ce, L, hx, hce, hcv, hcl, hW₂, hsm, hL⟩
  · obtain ⟨⟨v, rfl⟩, hW₂, e2, q2, q3, q4, q5, q6⟩ := id hfe
    have e3 : s₂ = ({ (U.calling g mk a).setFrames s₂.frames with heap := s₂.heap, slotsUsed := s₂.slotsUsed } : State).setVm s₂.vm := by
      have : s₂ = ({ s₂ with vm := (U.calling g mk a).vm } : State).setVm s₂.vm := rfl
      rw [e2] at this
      exact this
    obtain ⟨c₂, i₂, len₂, hc₂, hd₂, hf₂⟩ := hend
    have hW' : U.WarmedH s₂.vm := hW₂
    have hcc : c₂ = c := by
      have h1 : s₂.code? g.method = U.code? g.method := by
        rw [State.code?_eq, State.code?_eq, hW'.alike.method?]
      exact Option.some.inj (hc₂.symm.trans (h1.trans h.code))
    subst hcc
    have hlen : len₂ = len := by rw [hdg] at hd₂; cases hd₂; rfl
    subst hlen
    have hs₂ : s₂ = (({ U with heap := s₂.heap, slotsUsed := s₂.slotsUsed } : State).setVm s₂.vm).setTop { g with pc := g.pc + len₂, stack := v.toList ++ g.stack } := by
      refine e3.trans ?_
      rw [hf₂, State.calling_eq h.top, State.setFrames_setFrames, State.setTop_of_frames _ hr', hr]
      rfl
    have hsame : U.sameButNew ({ U with heap := s₂.heap, slotsUsed := s₂.slotsUsed } : State) L mc ms := by
      refine ⟨?_, q2, q3, q4, q5, q6⟩
      obtain ⟨t, ht, -⟩ := State.frames_cons hr
      show ({ U with heap := s₂.heap, slotsUsed := s₂.slotsUsed } : State) = { U.setFrames U.frames with heap := s₂.heap, slotsUsed := s₂.slotsUsed }
      rw [State.setFrames_self ht]
    subst hg
    refine Or.inl ⟨v, ⟨(({ U with heap := s₂.heap, slotsUsed := s₂.slotsUsed } : State).setVm s₂.vm), Ls ++ L, c0 + mc, s0 + ms⟩,
      ⟨X.admits, X.cas, X.clock, X.frames, X.room, X.hears, X.method, X.code, (X.here.setHeapUsed s₂.heap s₂.slotsUsed).setVm hW'.alike, X.tail, State.WarmedH.trans X.warmed hW', X.limits, X.bytes, X.same.trans (hsame.setVm s.vm)⟩,
      ⟨g, mk, s₂, L, rfl, rfl, hqc, rfl, hL, rfl, rfl⟩, ?_⟩
    show Steps p.tables e below _ ((({ U with heap := s₂.heap, slotsUsed := s₂.slotsUsed } : State).setVm s₂.vm).setTop { g with pc := g.pc + len₂, stack := v.toList ++ g.stack })
    rw [← hs₂]
    exact hsteps
  · obtain ⟨e2, q2, q3, q4, q5, q6⟩ := id hsm
    have e3 : s₂ = ({ (U.calling g mk a).setFrames s₂.frames with heap := s₂.heap, slotsUsed := s₂.slotsUsed } : State).setVm s₂.vm := by
      have : s₂ = ({ s₂ with vm := (U.calling g mk a).vm } : State).setVm s₂.vm := rfl
      rw [e2] at this
      exact this
    have hf₂ : s₂.frames = .throwing q :: .java g :: U.frames.tail := hend
    have hW' : U.WarmedH s₂.vm := hW₂
    have hs₂ : s₂ = ((({ U with heap := s₂.heap, slotsUsed := s₂.slotsUsed } : State).setVm s₂.vm).setTop g).pushFrame (.throwing q) := by
      refine e3.trans ?_
      rw [hf₂, State.calling_eq h.top, State.setFrames_setFrames, State.pushFrame, State.frames_setTop _ hr', State.setTop_of_frames _ hr', State.setFrames_setFrames, hr]
      rfl
    have hsame : U.sameButNew ({ U with heap := s₂.heap, slotsUsed := s₂.slotsUsed } : State) L mc ms := by
      refine ⟨?_, q2, q3, q4, q5, q6⟩
      obtain ⟨t, ht, -⟩ := State.frames_cons hr
      show ({ U with heap := s₂.heap, slotsUsed := s₂.slotsUsed } : State) = { U.setFrames U.frames with heap := s₂.heap, slotsUsed := s₂.slotsUsed }
      rw [State.setFrames_self ht]
    subst hg
    refine Or.inr ⟨q, ⟨(({ U with heap := s₂.heap, slotsUsed := s₂.slotsUsed } : State).setVm s₂.vm), Ls ++ L, c0 + mc, s0 + ms⟩,
      ⟨X.admits, X.cas, X.clock, X.frames, X.room, X.hears, X.method, X.code, (X.here.setHeapUsed s₂.heap s₂.slotsUsed).setVm hW'.alike, X.tail, State.WarmedH.trans X.warmed hW', X.limits, X.bytes, X.same.trans (hsame.setVm s.vm)⟩,
      ⟨g, mk, s₂, L, E, ce, rfl, rfl, hx, hce, hcv, hcl, rfl, hL, rfl, rfl⟩, ?_⟩
    show Steps p.tables e below _ (((({ U with heap := s₂.heap, slotsUsed := s₂.slotsUsed } : State).setVm s₂.vm).setTop g).pushFrame (.throwing q))
    rw [← hs₂]
    exact hsteps
end
variable {p : Program} {l : Launch} {e : Env} {R : Room} {s : State} {m : MethodId} {args : Array Value} {below : List Frame} {meth : Method} {c : Code} {T : State} {H : Heap} {locs : List Loc} {cells slots : Nat}
theorem vx_callVX (X : Stand p l e R s m args below meth c T locs cells slots) (hexec : p.tables.exec = Jvm.exec) {own C : String} {index : Nat} {y : MethodName} {bytes : ByteArray} {maxL : Nat} {ret : Option FieldType} {hh : List (Nat × Nat × Nat × Nat)}
    (hown : s.vm.findClass own = some m.cls) (hlink : (Cond.methodLink own index y).before args s = true) (hinst : (Cond.instanceMethod y).before args s = true) (hsel : (Cond.selects C y y).before args s = true)
    (hcode : (Cond.codeWith y bytes maxL ret hh).before args s = true) (hy : y.cls ≠ "java/lang/invoke/MethodHandle" ∧ y.cls ≠ "java/lang/invoke/VarHandle")
    {W9 : Nat} {Pre : Pt → Array Value → Prop} {Post : Pt → Array Value → Option Value → Pt → Prop} {PostX : Pt → Array Value → Addr → Pt → Prop} (hK : vx_Back l R p e below s args y 3 W9 Pre Post PostX)
    {b : Addr} {cellB : Cell} (hcell : T.heap[b]? = some cellB) (hobj : cellB.vm.isStatics = false) (hcls : s.vm.findClass C = some cellB.cls)
    {g : JFrame} (hg : g.method = m) (hsize : g.locals.size = c.maxLocals) {argsL rest : List Value} (hlen : ∀ sig, parseMethodDescriptor y.desc = some sig → argsL.length = sig.parameters.length)
    (hstack : g.stack = argsL.reverse ++ .ref b :: rest) (hW : 2 * g.monitorRoom + (rest.map fun v => v.category).sum ≤ W9) (hdg : decode c.code g.pc = .ok (.invokevirtual index, 3))
    (hpre : ∀ vm₁, s.WarmedH vm₁ → Pre ⟨T.setVm vm₁, locs, cells, slots⟩ (Value.ref b :: argsL).toArray) :
    (∃ (v : Option Value) (vm₁ : Vm) (B : Pt), s.WarmedH vm₁ ∧ Stand p l e R s m args below meth c B.U B.locs B.cells B.slots ∧ Post ⟨T.setVm vm₁, locs, cells, slots⟩ (Value.ref b :: argsL).toArray v B ∧
      ∀ target, Steps p.tables e below (B.U.setTop { g with pc := g.pc + 3, stack := v.toList ++ rest }) target → Steps p.tables e below (T.setTop g) target) ∨
    (∃ (q : Addr) (vm₁ : Vm) (B : Pt), s.WarmedH vm₁ ∧ Stand p l e R s m args below meth c B.U B.locs B.cells B.slots ∧ PostX ⟨T.setVm vm₁, locs, cells, slots⟩ (Value.ref b :: argsL).toArray q B ∧
      Steps p.tables e below (T.setTop g) ((B.U.setTop { g with stack := rest }).pushFrame (.throwing q))) := by
  obtain ⟨mk, methM, hnamed, hmethM, hstM, habM⟩ := Cond.instanceMethod_spec hinst
  obtain ⟨m8, methM', cM, hn8, hmethM', -, -, -, -, -, -, hsigM⟩ := Cond.codeWith_spec hcode
  cases Option.some.inj (hn8.symm.trans hnamed)
  cases hmethM.symm.trans hmethM'
  obtain ⟨c2, r2, m2, q1, q2, q3, q4, kP, hkP, hkPi⟩ := Cond.selects_spec hsel
  cases hcls.symm.trans q1
  cases (State.methodFound?_of_named hnamed hy).symm.trans q2
  cases hnamed.symm.trans q3
  have hselP : selectMethod e.platform s.vm cellB.cls mk = .method mk := by rw [Launch.admits_selectMethod X.admits]; exact q4
  obtain ⟨vm₁, X₁, hstep₁⟩ := X.invokevirtual hexec hown hlink hnamed hmethM hstM hkP hkPi hy (a := b) (cell := cellB) hcell
    (fun z h => by rw [h] at hobj; cases hobj) hselP hmethM habM hkP hkPi (g := g) hg (argsL := argsL) (rest := rest) (hlen _ hsigM) hstack hdg
  rcases hK m meth c ⟨T.setVm vm₁, locs, cells, slots⟩ { g with stack := rest } (.invokevirtual index) mk (Value.ref b :: argsL).toArray X₁ hg hsize hdg hW (X₁.named hnamed) (hpre vm₁ X₁.warmed) with ⟨v, B, X', hpost, hsteps⟩ | ⟨q, B, X', hpost, hsteps⟩
  · exact Or.inl ⟨v, vm₁, B, X₁.warmed, X', hpost, fun target h => hstep₁ _ fun acts => by rw [doInvoke_state]; exact hsteps.trans h⟩
  · exact Or.inr ⟨q, vm₁, B, X₁.warmed, X', hpost, hstep₁ _ fun acts => by rw [doInvoke_state]; exact hsteps⟩
theorem vx_callSX (X : Stand p l e R s m args below meth c T locs cells slots) (hexec : p.tables.exec = Jvm.exec) {own : String} {index : Nat} {y : MethodName} {bytes : ByteArray} {maxL : Nat} {ret : Option FieldType} {hh : List (Nat × Nat × Nat × Nat)}
    (hown : s.vm.findClass own = some m.cls) (hlink : (Cond.methodLink own index y).before args s = true) (hstat : (Cond.static y).before args s = true) (hinit : (Cond.initialized y.cls).before args s = true)
    (hcode : (Cond.codeWith y bytes maxL ret hh).before args s = true) (hy : y.cls ≠ "java/lang/invoke/MethodHandle" ∧ y.cls ≠ "java/lang/invoke/VarHandle")
    {W9 : Nat} {Pre : Pt → Array Value → Prop} {Post : Pt → Array Value → Option Value → Pt → Prop} {PostX : Pt → Array Value → Addr → Pt → Prop} (hK : vx_Back l R p e below s args y 3 W9 Pre Post PostX)
    {g : JFrame} (hg : g.method = m) (hsize : g.locals.size = c.maxLocals) {argsL rest : List Value} (hlen : ∀ sig, parseMethodDescriptor y.desc = some sig → argsL.length = sig.parameters.length)
    (hstack : g.stack = argsL.reverse ++ rest) (hW : 2 * g.monitorRoom + (rest.map fun v => v.category).sum ≤ W9) (hdg : decode c.code g.pc = .ok (.invokestatic index, 3))
    (hpre : ∀ vm₁, s.WarmedH vm₁ → Pre ⟨T.setVm vm₁, locs, cells, slots⟩ argsL.toArray) :
    (∃ (v : Option Value) (vm₁ : Vm) (B : Pt), s.WarmedH vm₁ ∧ Stand p l e R s m args below meth c B.U B.locs B.cells B.slots ∧ Post ⟨T.setVm vm₁, locs, cells, slots⟩ argsL.toArray v B ∧
      ∀ target, Steps p.tables e below (B.U.setTop { g with pc := g.pc + 3, stack := v.toList ++ rest }) target → Steps p.tables e below (T.setTop g) target) ∨
    (∃ (q : Addr) (vm₁ : Vm) (B : Pt), s.WarmedH vm₁ ∧ Stand p l e R s m args below meth c B.U B.locs B.cells B.slots ∧ PostX ⟨T.setVm vm₁, locs, cells, slots⟩ argsL.toArray q B ∧
      Steps p.tables e below (T.setTop g) ((B.U.setTop { g with stack := rest }).pushFrame (.throwing q))) := by
  obtain ⟨mk, methM, cM, hnamed, hmethM, -, -, -, -, -, -, hsigM⟩ := Cond.codeWith_spec hcode
  have hstatic : methM.isStatic = true := Cond.static_spec hnamed hmethM hstat
  obtain ⟨kP, hkP, -⟩ := className_of_methodNamed hnamed
  have hinitP : kP.init = .initialized := Cond.initialized_spec (findClass_of_methodNamed hnamed) hkP hinit
  obtain ⟨vm₁, X₁, hstep₁⟩ := X.invokestatic hexec hown hlink hnamed hmethM hstatic hkP hinitP hy (g := g) hg (argsL := argsL) (rest := rest) (hlen _ hsigM) hstack hdg
  rcases hK m meth c ⟨T.setVm vm₁, locs, cells, slots⟩ { g with stack := rest } (.invokestatic index) mk argsL.toArray X₁ hg hsize hdg hW (X₁.named hnamed) (hpre vm₁ X₁.warmed) with ⟨v, B, X', hpost, hsteps⟩ | ⟨q, B, X', hpost, hsteps⟩
  · exact Or.inl ⟨v, vm₁, B, X₁.warmed, X', hpost, fun target h => hstep₁ _ fun acts => by rw [doInvoke_state]; exact hsteps.trans h⟩
  · exact Or.inr ⟨q, vm₁, B, X₁.warmed, X', hpost, hstep₁ _ fun acts => by rw [doInvoke_state]; exact hsteps⟩
theorem vx_callVW (X : Stand p l e R s m args below meth c T locs cells slots) (hexec : p.tables.exec = Jvm.exec) {own C : String} {index : Nat} {y : MethodName} {bytes : ByteArray} {maxL : Nat} {ret : Option FieldType} {hh : List (Nat × Nat × Nat × Nat)}
    (hown : s.vm.findClass own = some m.cls) (hlink : (Cond.methodLink own index y).before args s = true) (hinst : (Cond.instanceMethod y).before args s = true) (hsel : (Cond.selects C y y).before args s = true)
    (hcode : (Cond.codeWith y bytes maxL ret hh).before args s = true) (hy : y.cls ≠ "java/lang/invoke/MethodHandle" ∧ y.cls ≠ "java/lang/invoke/VarHandle")
    {W9 : Nat} {Pre : Pt → Array Value → Prop} {Post : Pt → Array Value → Option Value → Pt → Prop} (hK : Back l R p e below s args y 3 W9 Pre Post)
    {b : Addr} {cellB : Cell} (hcell : T.heap[b]? = some cellB) (hobj : cellB.vm.isStatics = false) (hcls : s.vm.findClass C = some cellB.cls)
    {g : JFrame} (hg : g.method = m) (hsize : g.locals.size = c.maxLocals) {argsL rest : List Value} (hlen : ∀ sig, parseMethodDescriptor y.desc = some sig → argsL.length = sig.parameters.length)
    (hstack : g.stack = argsL.reverse ++ .ref b :: rest) (hW : 2 * g.monitorRoom + (rest.map fun v => v.category).sum ≤ W9) (hdg : decode c.code g.pc = .ok (.invokevirtual index, 3))
    (hpre : ∀ vm₁, s.WarmedH vm₁ → Pre ⟨T.setVm vm₁, locs, cells, slots⟩ (Value.ref b :: argsL).toArray) :
    ∃ (v : Option Value) (vm₁ : Vm) (B : Pt), s.WarmedH vm₁ ∧ Stand p l e R s m args below meth c B.U B.locs B.cells B.slots ∧ Post ⟨T.setVm vm₁, locs, cells, slots⟩ (Value.ref b :: argsL).toArray v B ∧
      ∀ target, Steps p.tables e below (B.U.setTop { g with pc := g.pc + 3, stack := v.toList ++ rest }) target → Steps p.tables e below (T.setTop g) target := by
  obtain ⟨mk, methM, hnamed, hmethM, hstM, habM⟩ := Cond.instanceMethod_spec hinst
  obtain ⟨m8, methM', cM, hn8, hmethM', -, -, -, -, -, -, hsigM⟩ := Cond.codeWith_spec hcode
  cases Option.some.inj (hn8.symm.trans hnamed)
  cases hmethM.symm.trans hmethM'
  obtain ⟨c2, r2, m2, q1, q2, q3, q4, kP, hkP, hkPi⟩ := Cond.selects_spec hsel
  cases hcls.symm.trans q1
  cases (State.methodFound?_of_named hnamed hy).symm.trans q2
  cases hnamed.symm.trans q3
  have hselP : selectMethod e.platform s.vm cellB.cls mk = .method mk := by rw [Launch.admits_selectMethod X.admits]; exact q4
  obtain ⟨vm₁, X₁, hstep₁⟩ := X.invokevirtual hexec hown hlink hnamed hmethM hstM hkP hkPi hy (a := b) (cell := cellB) hcell
    (fun z h => by rw [h] at hobj; cases hobj) hselP hmethM habM hkP hkPi (g := g) hg (argsL := argsL) (rest := rest) (hlen _ hsigM) hstack hdg
  obtain ⟨v, B, X', hpost, hsteps⟩ := hK m meth c ⟨T.setVm vm₁, locs, cells, slots⟩ { g with stack := rest } (.invokevirtual index) mk (Value.ref b :: argsL).toArray X₁ hg hsize hdg hW (X₁.named hnamed) (hpre vm₁ X₁.warmed)
  exact ⟨v, vm₁, B, X₁.warmed, X', hpost, fun target h => hstep₁ _ fun acts => by rw [doInvoke_state]; exact hsteps.trans h⟩
abbrev vx_CVW (R : Room) (s : State) (args : Array Value) (own C : String) (index : Nat) (y : MethodName) (bytes : ByteArray) (maxL : Nat) (ret : Option FieldType) (hh : List (Nat × Nat × Nat × Nat)) (ws : List Cond) (rm : Room) (mc ms n : Nat) : Prop :=
  (rm.cells = mc ∧ rm.slots = ms ∧ rm.frames + 1 ≤ R.frames ∧ 8 + (maxL + 11) + rm.locals ≤ R.locals ∧ (∀ w ∈ ws, ∀ (a' : Array Value) (U : State), s.WarmedH U.vm → w.before a' U = true) ∧ Cond.codeWith y bytes maxL ret hh ∈ ws) ∧
  (Cond.codeWith y bytes maxL ret hh).before args s = true ∧ (Cond.initialized y.cls).before args s = true ∧ (y.cls ≠ "java/lang/invoke/MethodHandle" ∧ y.cls ≠ "java/lang/invoke/VarHandle") ∧
  (∀ sig, parseMethodDescriptor y.desc = some sig → n = sig.parameters.length) ∧ (Cond.methodLink own index y).before args s = true ∧ (Cond.instanceMethod y).before args s = true ∧ (Cond.selects C y y).before args s = true
theorem vx_cwVW {own C : String} {index maxL mc ms : Nat} {y : MethodName} {bytes : ByteArray} {ret : Option FieldType} {hh : List (Nat × Nat × Nat × Nat)} {Ts ws ws' : List Cond} {rm : Room} (n : Nat) (ht : ∀ w ∈ Ts, w.before args s = true) (hT : GoodIn Ts (wsV own index C y ws)) (hw : ws = Cond.codeWith y bytes maxL ret hh :: ws') (hrc : rm.cells = mc) (hrs : rm.slots = ms)
    (hd : y.cls = C ∧ y.cls ≠ "java/lang/invoke/MethodHandle" ∧ y.cls ≠ "java/lang/invoke/VarHandle" ∧ (parseMethodDescriptor y.desc).map (fun d => d.parameters.length) = some n) (hR : rm.frames + 1 ≤ R.frames ∧ 8 + (maxL + 11) + rm.locals ≤ R.locals) :
    vx_CVW R s args own C index y bytes maxL ret hh ws rm mc ms n := by
  obtain ⟨hC, hd⟩ := hd
  subst hC
  have ok : ∀ w ∈ wsV own index y.cls y ws, w.before args s = true := fun w h => ht w (hT w h).1
  have hG : GoodIn Ts ws := fun w h => hT w (by unfold wsV; exact List.mem_append_right _ h)
  have hc : Cond.codeWith y bytes maxL ret hh ∈ ws := by rw [hw]; exact List.mem_cons_self
  refine ⟨⟨hrc, hrs, hR.1, hR.2, pay_in ht hG, hc⟩, ht _ (hG _ hc).1, ok _ (by simp [wsV]), ⟨hd.1, hd.2.1⟩, fun sig h => ?_, ok _ (by simp [wsV]), ok _ (by simp [wsV]), ok _ (by simp [wsV])⟩
  have h2 := hd.2.2
  rw [h] at h2
  exact (Option.some.inj h2).symm
theorem vx_runVW {y : MethodName} {bytes cc : ByteArray} {maxL nL mc ms n index : Nat} {ret : Option FieldType} {hh : List (Nat × Nat × Nat × Nat)} {ws : List Cond} {rm : Room} {Pc : Array Value → State → Prop} {Qc : Array Value → State → Outcome → State → Prop} {free : Addr → Prop} {Ts : List Cond} {own C : String} {b : Addr} {As rest : List Value} {g : JFrame}
    (S : CallFix p m c cc nL s args Ts own) (hM : Met l y ws rm Pc Qc mc ms free) (cw : vx_CVW R s args own C index y bytes maxL ret hh ws rm mc ms n) (hp : PreV s H C b Pc As)
    (hg : g.method = m) (hn : As.length = n) (hsize : g.locals.size = nL) (hstack : g.stack = As.reverse ++ .ref b :: rest) (hW : 2 * g.monitorRoom + (rest.map fun v => v.category).sum ≤ 8) (hdg : decode cc g.pc = .ok (.invokevirtual index, 3)) (hf : cells + mc ≤ R.cells ∧ slots + ms ≤ R.slots) :
    va_Run p l e R s m args below meth c H locs cells slots mc ms g rest (Qc (Value.ref b :: As).toArray) free := by
  obtain ⟨⟨hrc, hrs, hfr, hlo, hws, hcw⟩, hcode, hini, hy, hlen, hl, hin, hse⟩ := cw
  have hK : Back l R p e below s args y 3 8 (PreOf R mc ms Pc) (PostOf Qc mc ms free) := va_backW (hh := hh) (bytes := bytes) (maxL := maxL) (ret := ret) hM hp.1 hrc hrs hfr hlo hws hcw (fun a' U hW => word_at hW (Or.inl (by first | rfl | simp [Cond.onTables, Cond.keeps, Cond.steady])) hini)
  obtain ⟨hx, hb, hml, ho, -⟩ := S
  obtain ⟨-, ⟨cellB, hcB, hoB, hclB⟩, hPc⟩ := hp
  intro T hT X
  obtain ⟨v, vm₁, ⟨U', l2, c2, s2⟩, hW₁, X', ⟨g', mk, t, L, e1, e2, hq, h1, hL, h2, h3⟩, st⟩ := vx_callVW X hx (C := C) (hh := hh) (bytes := bytes) (maxL := maxL) (ret := ret) ho hl hin hse hcode hy hK (by rw [hT]; exact hcB) hoB hclB hg (hsize.trans hml.symm) (argsL := As) (rest := rest) (fun sig h => hn.trans (hlen sig h)) hstack hW (by rw [hb]; exact hdg)
    (fun vm₁ hW₁ => ⟨hf.1, hf.2, hPc (T.setVm vm₁) hT hW₁⟩)
  dsimp only [Pt.U, Pt.locs, Pt.cells, Pt.slots] at X' e1 e2 h1 h2 h3 st
  subst h1; subst h2; subst h3
  exact ⟨v, (T.setVm vm₁).calling g' mk (Value.ref b :: As).toArray, t, U', L, hT, X', hL, e1, e2, hq, st⟩
section
variable {y : MethodName} {bytes cc : ByteArray} {maxL nL mc ms n index : Nat} {ret : Option FieldType} {ws : List Cond} {rm : Room} {Pc : Array Value → State → Prop} {Qc : Array Value → State → Outcome → State → Prop} {XC : String → State → State → Prop} {free : Addr → Prop} {Ts : List Cond} {own C : String} {b : Addr} {As rest : List Value} {g : JFrame}
theorem vx_runVX {hh : List (Nat × Nat × Nat × Nat)} (S : CallFix p m c cc nL s args Ts own) (hM : vx_Met l y ws rm Pc Qc XC mc ms free) (cw : vx_CVW R s args own C index y bytes maxL ret hh ws rm mc ms n) (hp : PreV s H C b Pc As)
    (hg : g.method = m) (hn : As.length = n) (hsize : g.locals.size = nL) (hstack : g.stack = As.reverse ++ .ref b :: rest) (hW : 2 * g.monitorRoom + (rest.map fun v => v.category).sum ≤ 8) (hdg : decode cc g.pc = .ok (.invokevirtual index, 3)) (hf : cells + mc ≤ R.cells ∧ slots + ms ≤ R.slots) :
    vx_Run p l e R s m args below meth c H locs cells slots mc ms g rest (Qc (Value.ref b :: As).toArray) XC free := by
  obtain ⟨⟨hrc, hrs, hfr, hlo, hws, hcw⟩, hcode, hini, hy, hlen, hl, hin, hse⟩ := cw
  have hK : vx_Back l R p e below s args y 3 8 (PreOf R mc ms Pc) (PostOf Qc mc ms free) (vx_Post XC mc ms free) := vx_backW (hh := hh) (bytes := bytes) (maxL := maxL) (ret := ret) hM hp.1 hrc hrs hfr hlo hws hcw (fun a' U hW => word_at hW (Or.inl (by first | rfl | simp [Cond.onTables, Cond.keeps, Cond.steady])) hini)
  obtain ⟨hx, hb, hml, ho, -⟩ := S
  obtain ⟨-, ⟨cellB, hcB, hoB, hclB⟩, hPc⟩ := hp
  intro T hT X
  rcases vx_callVX X hx (C := C) (hh := hh) (bytes := bytes) (maxL := maxL) (ret := ret) ho hl hin hse hcode hy hK (by rw [hT]; exact hcB) hoB hclB hg (hsize.trans hml.symm) (argsL := As) (rest := rest) (fun sig h => hn.trans (hlen sig h)) hstack hW (by rw [hb]; exact hdg)
    (fun vm₁ hW₁ => ⟨hf.1, hf.2, hPc (T.setVm vm₁) hT hW₁⟩) with ⟨v, vm₁, ⟨U', l2, c2, s2⟩, hW₁, X', ⟨g', mk, t, L, e1, e2, hq, h1, hL, h2, h3⟩, st⟩ | ⟨q, vm₁, ⟨U', l2, c2, s2⟩, hW₁, X', ⟨g', mk, t, L, E, ce, e1, e2, hq, hce, hcv, hcl, h1, hL, h2, h3⟩, st⟩
  · dsimp only [Pt.U, Pt.locs, Pt.cells, Pt.slots] at X' e1 e2 h1 h2 h3 st
    subst h1; subst h2; subst h3
    exact Or.inl ⟨v, (T.setVm vm₁).calling g' mk (Value.ref b :: As).toArray, t, U', L, hT, X', hL, e1, e2, hq, st⟩
  · dsimp only [Pt.U, Pt.locs, Pt.cells, Pt.slots] at X' e1 e2 h1 h2 h3 st hcl
    subst h1; subst h2; subst h3
    exact Or.inr ⟨q, (T.setVm vm₁).calling g' mk (Value.ref b :: As).toArray, t, U', L, E, ce, hT, X', hL, e1, e2, hq, hce, hcv, vx_cls hW₁ hcl, st⟩
theorem vx_runSX {hh : List (Nat × Nat × Nat × Nat)} (S : CallFix p m c cc nL s args Ts own) (hM : vx_Met l y ws rm Pc Qc XC mc ms free) (cw : vx_CSW R s args own index y bytes maxL ret hh ws rm mc ms n) (hp : PreS s H Pc As)
    (hg : g.method = m) (hn : As.length = n) (hsize : g.locals.size = nL) (hstack : g.stack = As.reverse ++ rest) (hW : 2 * g.monitorRoom + (rest.map fun v => v.category).sum ≤ 8) (hdg : decode cc g.pc = .ok (.invokestatic index, 3)) (hf : cells + mc ≤ R.cells ∧ slots + ms ≤ R.slots) :
    vx_Run p l e R s m args below meth c H locs cells slots mc ms g rest (Qc As.toArray) XC free := by
  obtain ⟨⟨hrc, hrs, hfr, hlo, hws, hcw⟩, hcode, hini, hy, hlen, hl, hstt⟩ := cw
  have hK : vx_Back l R p e below s args y 3 8 (PreOf R mc ms Pc) (PostOf Qc mc ms free) (vx_Post XC mc ms free) := vx_backW (hh := hh) (bytes := bytes) (maxL := maxL) (ret := ret) hM hp.1 hrc hrs hfr hlo hws hcw (fun a' U hW => word_at hW (Or.inl (by first | rfl | simp [Cond.onTables, Cond.keeps, Cond.steady])) hini)
  obtain ⟨hx, hb, hml, ho, -⟩ := S
  intro T hT X
  rcases vx_callSX X hx (hh := hh) (bytes := bytes) (maxL := maxL) (ret := ret) ho hl hstt hini hcode hy hK hg (hsize.trans hml.symm) (argsL := As) (rest := rest) (fun sig h => hn.trans (hlen sig h)) hstack hW (by rw [hb]; exact hdg)
    (fun vm₁ hW₁ => ⟨hf.1, hf.2, hp.2 (T.setVm vm₁) hT hW₁⟩) with ⟨v, vm₁, ⟨U', l2, c2, s2⟩, hW₁, X', ⟨g', mk, t, L, e1, e2, hq, h1, hL, h2, h3⟩, st⟩ | ⟨q, vm₁, ⟨U', l2, c2, s2⟩, hW₁, X', ⟨g', mk, t, L, E, ce, e1, e2, hq, hce, hcv, hcl, h1, hL, h2, h3⟩, st⟩
  · dsimp only [Pt.U, Pt.locs, Pt.cells, Pt.slots] at X' e1 e2 h1 h2 h3 st
    subst h1; subst h2; subst h3
    exact Or.inl ⟨v, (T.setVm vm₁).calling g' mk As.toArray, t, U', L, hT, X', hL, e1, e2, hq, st⟩
  · dsimp only [Pt.U, Pt.locs, Pt.cells, Pt.slots] at X' e1 e2 h1 h2 h3 st hcl
    subst h1; subst h2; subst h3
    exact Or.inr ⟨q, (T.setVm vm₁).calling g' mk As.toArray, t, U', L, E, ce, hT, X', hL, e1, e2, hq, hce, hcv, vx_cls hW₁ hcl, st⟩
end
end VXH
theorem vx_ofWH {l : Launch} {y : MethodName} {ws ws' : List Cond} {rm : Room} {Pc : Array Value → State → Prop} {Qc : Array Value → State → Outcome → State → Prop} {XC : String → State → State → Prop} {mc ms : Nat} {free : Addr → Prop} {cc : ByteArray} {maxL : Nat} {ret : Option FieldType} {hh : List (Nat × Nat × Nat × Nat)}
    (hy : plainName y.cls = true) (hw : ws = Cond.codeWith y cc maxL ret hh :: ws')
    (body : ∀ p e s m args below meth c s₁, BodyLoose p l y (headSpec ws rm) cc maxL ret e s m args below meth c s₁ → c.maxLocals = maxL → Pc args s →
      W p l e (headSpec ws rm).room s m args below meth c s.heap [] 0 0 (vx_MQ below Qc XC args s mc ms free) (entryFrame m args maxL)) : vx_Met l y ws rm Pc Qc XC mc ms free := by
  refine MetFree.of_bodyS (code := cc) (maxLocals := maxL) (ret := ret) hy ?_ ?_
  · intro args s m h hn
    obtain ⟨m9, meth, c, hn9, h1, h2, h3, h4, -, h5, h6, -⟩ := Cond.codeWith_spec (atoms_spec (ws := ws) h _ (by rw [hw]; exact List.mem_cons_self))
    cases hn.symm.trans hn9
    exact ⟨meth, c, h1, h2, h3, h4, h5, h6⟩
  · intro p e s m args below meth c s₁ B hml hP _
    have hh0 : s₁.heap = s.heap := by rw [B.state]; rfl
    obtain ⟨t, a1, o, b1, b2, b3⟩ := body p e s m args below meth c s₁ B hml hP s₁ hh0 (Stand.of_body B)
    exact ⟨t, o, a1, b1, b2, b3⟩
/-! ===== END ===== -/
end
section
def RX0 : String := "AlmanacOffice$Book"
def TX0 : u_T := fun k => match k with
  | 0 => ("AlmanacOffice$Book", "villages", "[I", true)
  | 1 => ("AlmanacOffice$Book", "days", "[I", true)
  | 2 => ("AlmanacOffice$Book", "weathers", "[I", true)
  | 3 => ("AlmanacOffice$Book", "sold", "[I", true)
  | 4 => ("AlmanacOffice$Book", "paid", "[I", true)
  | _ => ("AlmanacOffice$Book", "count", "I", false)
def tyX0 : Nat → FieldType := fun k => match k with
  | 0 => .array .int
  | 1 => .array .int
  | 2 => .array .int
  | 3 => .array .int
  | 4 => .array .int
  | _ => .int
abbrev wsX00 : List Cond := u_ws RX0 TX0 6
theorem nmX0 : ∀ a, a < 6 → ∀ b, b < 6 → a ≠ b → (TX0 a).2.1 ≠ (TX0 b).2.1 := by decide +kernel
theorem tyX0_ok : ∀ k, k < 6 → parseFieldDescriptor (TX0 k).2.2.1 = some (tyX0 k) := by decide +kernel
abbrev cX0_init : ByteArray := prog_2_method_1_code
def yX0_init : MethodName := ⟨RX0, "<init>", "()V"⟩
abbrev cX0_placeOf : ByteArray := prog_2_method_2_code
def yX0_placeOf : MethodName := ⟨RX0, "placeOf", "(II)I"⟩
abbrev cX0_labelAt : ByteArray := prog_2_method_3_code
def yX0_labelAt : MethodName := ⟨RX0, "labelAt", "(I)I"⟩
abbrev cX0_add : ByteArray := prog_2_method_5_code
def yX0_add : MethodName := ⟨RX0, "add", "(III)V"⟩
abbrev cX0_remove : ByteArray := prog_2_method_6_code
def yX0_remove : MethodName := ⟨RX0, "remove", "(II)V"⟩
abbrev cX0_pages : ByteArray := prog_2_method_7_code
def yX0_pages : MethodName := ⟨RX0, "pages", "()I"⟩
abbrev cX0_hasPage : ByteArray := prog_2_method_8_code
def yX0_hasPage : MethodName := ⟨RX0, "hasPage", "(I)Z"⟩
abbrev cX0_startOf : ByteArray := prog_2_method_9_code
def yX0_startOf : MethodName := ⟨RX0, "startOf", "(I)I"⟩
abbrev cX0_endOf : ByteArray := prog_2_method_10_code
def yX0_endOf : MethodName := ⟨RX0, "endOf", "(I)I"⟩
abbrev cX0_paidForPage : ByteArray := prog_2_method_11_code
def yX0_paidForPage : MethodName := ⟨RX0, "paidForPage", "(I)I"⟩
abbrev cX0_copies : ByteArray := prog_2_method_12_code
def yX0_copies : MethodName := ⟨RX0, "copies", "()I"⟩
abbrev cX0_errors : ByteArray := prog_2_method_15_code
def yX0_errors : MethodName := ⟨RX0, "errors", "()I"⟩
abbrev cX0_takeFrom : ByteArray := prog_2_method_16_code
def yX0_takeFrom : MethodName := ⟨RX0, "takeFrom", "(LAlmanacOffice$Book;)V"⟩
def RX1 : String := "AlmanacOffice$Bytes"
def TX1 : u_T := fun k => match k with
  | 0 => ("AlmanacOffice$Bytes", "row", "[B", true)
  | _ => ("AlmanacOffice$Bytes", "length", "I", false)
def tyX1 : Nat → FieldType := fun k => match k with
  | 0 => .array .byte
  | _ => .int
abbrev wsX10 : List Cond := u_ws RX1 TX1 2
theorem nmX1 : ∀ a, a < 2 → ∀ b, b < 2 → a ≠ b → (TX1 a).2.1 ≠ (TX1 b).2.1 := by decide +kernel
theorem tyX1_ok : ∀ k, k < 2 → parseFieldDescriptor (TX1 k).2.2.1 = some (tyX1 k) := by decide +kernel
abbrev cX1_init : ByteArray := prog_3_method_1_code
def yX1_init : MethodName := ⟨RX1, "<init>", "()V"⟩
abbrev cX1_hasRoomFor : ByteArray := prog_3_method_2_code
def yX1_hasRoomFor : MethodName := ⟨RX1, "hasRoomFor", "(I)Z"⟩
abbrev cX1_put : ByteArray := prog_3_method_3_code
def yX1_put : MethodName := ⟨RX1, "put", "(I)V"⟩
abbrev cX1_putFour : ByteArray := prog_3_method_4_code
def yX1_putFour : MethodName := ⟨RX1, "putFour", "(I)V"⟩
abbrev cX1_putText : ByteArray := prog_3_method_5_code
def yX1_putText : MethodName := ⟨RX1, "putText", "(Ljava/lang/String;)V"⟩
abbrev cX1_at : ByteArray := prog_3_method_8_code
def yX1_at : MethodName := ⟨RX1, "at", "(I)I"⟩
abbrev cX1_nameBetween : ByteArray := prog_3_method_9_code
def yX1_nameBetween : MethodName := ⟨RX1, "nameBetween", "(II)I"⟩
def RX2 : String := "AlmanacOffice$Fairs"
def TX2 : u_T := fun k => match k with
  | 0 => ("AlmanacOffice$Fairs", "names", "[I", true)
  | 1 => ("AlmanacOffice$Fairs", "villages", "[I", true)
  | 2 => ("AlmanacOffice$Fairs", "periods", "[I", true)
  | 3 => ("AlmanacOffice$Fairs", "stocks", "[I", true)
  | 4 => ("AlmanacOffice$Fairs", "prices", "[I", true)
  | _ => ("AlmanacOffice$Fairs", "count", "I", false)
def tyX2 : Nat → FieldType := fun k => match k with
  | 0 => .array .int
  | 1 => .array .int
  | 2 => .array .int
  | 3 => .array .int
  | 4 => .array .int
  | _ => .int
abbrev wsX20 : List Cond := u_ws RX2 TX2 6
theorem nmX2 : ∀ a, a < 6 → ∀ b, b < 6 → a ≠ b → (TX2 a).2.1 ≠ (TX2 b).2.1 := by decide +kernel
theorem tyX2_ok : ∀ k, k < 6 → parseFieldDescriptor (TX2 k).2.2.1 = some (tyX2 k) := by decide +kernel
abbrev cX2_init : ByteArray := prog_4_method_1_code
def yX2_init : MethodName := ⟨RX2, "<init>", "()V"⟩
abbrev cX2_numberOf : ByteArray := prog_4_method_3_code
def yX2_numberOf : MethodName := ⟨RX2, "numberOf", "(I)I"⟩
abbrev cX2_add : ByteArray := prog_4_method_4_code
def yX2_add : MethodName := ⟨RX2, "add", "(IIIII)V"⟩
abbrev cX2_isHeld : ByteArray := prog_4_method_6_code
def yX2_isHeld : MethodName := ⟨RX2, "isHeld", "(II)Z"⟩
abbrev cX2_takeFrom : ByteArray := prog_4_method_7_code
def yX2_takeFrom : MethodName := ⟨RX2, "takeFrom", "(LAlmanacOffice$Fairs;)V"⟩
def RX3 : String := "AlmanacOffice$History"
def TX3 : u_T := fun k => match k with
  | 0 => ("AlmanacOffice$History", "past", "[LAlmanacOffice$State;", true)
  | 1 => ("AlmanacOffice$History", "next", "I", false)
  | _ => ("AlmanacOffice$History", "count", "I", false)
def tyX3 : Nat → FieldType := fun k => match k with
  | 0 => .array (.object "AlmanacOffice$State")
  | 1 => .int
  | _ => .int
abbrev wsX30 : List Cond := u_ws RX3 TX3 3
theorem nmX3 : ∀ a, a < 3 → ∀ b, b < 3 → a ≠ b → (TX3 a).2.1 ≠ (TX3 b).2.1 := by decide +kernel
theorem tyX3_ok : ∀ k, k < 3 → parseFieldDescriptor (TX3 k).2.2.1 = some (tyX3 k) := by decide +kernel
abbrev cX3_init : ByteArray := prog_5_method_1_code
def yX3_init : MethodName := ⟨RX3, "<init>", "()V"⟩
abbrev cX3_remember : ByteArray := prog_5_method_2_code
def yX3_remember : MethodName := ⟨RX3, "remember", "(LAlmanacOffice$State;)V"⟩
def RX4 : String := "AlmanacOffice$Memory"
def TX4 : u_T := fun k => match k with
  | 0 => ("AlmanacOffice$Memory", "labels", "[I", true)
  | _ => ("AlmanacOffice$Memory", "count", "I", false)
def tyX4 : Nat → FieldType := fun k => match k with
  | 0 => .array .int
  | _ => .int
abbrev wsX40 : List Cond := u_ws RX4 TX4 2
theorem nmX4 : ∀ a, a < 2 → ∀ b, b < 2 → a ≠ b → (TX4 a).2.1 ≠ (TX4 b).2.1 := by decide +kernel
theorem tyX4_ok : ∀ k, k < 2 → parseFieldDescriptor (TX4 k).2.2.1 = some (tyX4 k) := by decide +kernel
abbrev cX4_init : ByteArray := prog_6_method_1_code
def yX4_init : MethodName := ⟨RX4, "<init>", "()V"⟩
abbrev cX4_add : ByteArray := prog_6_method_2_code
def yX4_add : MethodName := ⟨RX4, "add", "(II)V"⟩
abbrev cX4_takeFrom : ByteArray := prog_6_method_3_code
def yX4_takeFrom : MethodName := ⟨RX4, "takeFrom", "(LAlmanacOffice$Memory;)V"⟩
def RX5 : String := "AlmanacOffice$Parser"
def TX5 : u_T := fun k => match k with
  | 0 => ("AlmanacOffice$Parser", "scanner", "LAlmanacOffice$Scanner;", true)
  | 1 => ("AlmanacOffice$Parser", "state", "LAlmanacOffice$State;", true)
  | 2 => ("AlmanacOffice$Parser", "errorCode", "I", false)
  | _ => ("AlmanacOffice$Parser", "errorPosition", "I", false)
def tyX5 : Nat → FieldType := fun k => match k with
  | 0 => .object "AlmanacOffice$Scanner"
  | 1 => .object "AlmanacOffice$State"
  | 2 => .int
  | _ => .int
abbrev wsX50 : List Cond := u_ws RX5 TX5 4
theorem nmX5 : ∀ a, a < 4 → ∀ b, b < 4 → a ≠ b → (TX5 a).2.1 ≠ (TX5 b).2.1 := by decide +kernel
theorem tyX5_ok : ∀ k, k < 4 → parseFieldDescriptor (TX5 k).2.2.1 = some (tyX5 k) := by decide +kernel
abbrev cX5_init : ByteArray := prog_7_method_1_code
def yX5_init : MethodName := ⟨RX5, "<init>", "(LAlmanacOffice$Bytes;LAlmanacOffice$State;)V"⟩
abbrev cX5_readText : ByteArray := prog_7_method_2_code
def yX5_readText : MethodName := ⟨RX5, "readText", "()Z"⟩
abbrev cX5_readAlmanac : ByteArray := prog_7_method_3_code
def yX5_readAlmanac : MethodName := ⟨RX5, "readAlmanac", "()Z"⟩
abbrev cX5_readStatement : ByteArray := prog_7_method_4_code
def yX5_readStatement : MethodName := ⟨RX5, "readStatement", "()Z"⟩
abbrev cX5_readVillage : ByteArray := prog_7_method_5_code
def yX5_readVillage : MethodName := ⟨RX5, "readVillage", "()Z"⟩
abbrev cX5_readFair : ByteArray := prog_7_method_6_code
def yX5_readFair : MethodName := ⟨RX5, "readFair", "()Z"⟩
abbrev cX5_readSay : ByteArray := prog_7_method_7_code
def yX5_readSay : MethodName := ⟨RX5, "readSay", "()Z"⟩
abbrev cX5_readRetract : ByteArray := prog_7_method_8_code
def yX5_readRetract : MethodName := ⟨RX5, "readRetract", "()Z"⟩
abbrev cX5_readPass : ByteArray := prog_7_method_9_code
def yX5_readPass : MethodName := ⟨RX5, "readPass", "()Z"⟩
abbrev cX5_weatherOfToken : ByteArray := prog_7_method_10_code
def yX5_weatherOfToken : MethodName := ⟨RX5, "weatherOfToken", "()I"⟩
abbrev cX5_readNewName : ByteArray := prog_7_method_11_code
def yX5_readNewName : MethodName := ⟨RX5, "readNewName", "()Z"⟩
abbrev cX5_readKnownVillage : ByteArray := prog_7_method_12_code
def yX5_readKnownVillage : MethodName := ⟨RX5, "readKnownVillage", "()Z"⟩
abbrev cX5_readNumber : ByteArray := prog_7_method_13_code
def yX5_readNumber : MethodName := ⟨RX5, "readNumber", "(II)Z"⟩
abbrev cX5_readSemicolon : ByteArray := prog_7_method_14_code
def yX5_readSemicolon : MethodName := ⟨RX5, "readSemicolon", "()Z"⟩
abbrev cX5_fail : ByteArray := prog_7_method_15_code
def yX5_fail : MethodName := ⟨RX5, "fail", "(I)Z"⟩
def RX6 : String := "AlmanacOffice$Scanner"
def TX6 : u_T := fun k => match k with
  | 0 => ("AlmanacOffice$Scanner", "text", "LAlmanacOffice$Bytes;", true)
  | 1 => ("AlmanacOffice$Scanner", "kind", "I", false)
  | 2 => ("AlmanacOffice$Scanner", "start", "I", false)
  | 3 => ("AlmanacOffice$Scanner", "end", "I", false)
  | _ => ("AlmanacOffice$Scanner", "number", "I", false)
def tyX6 : Nat → FieldType := fun k => match k with
  | 0 => .object "AlmanacOffice$Bytes"
  | 1 => .int
  | 2 => .int
  | 3 => .int
  | _ => .int
abbrev wsX60 : List Cond := u_ws RX6 TX6 5
theorem nmX6 : ∀ a, a < 5 → ∀ b, b < 5 → a ≠ b → (TX6 a).2.1 ≠ (TX6 b).2.1 := by decide +kernel
theorem tyX6_ok : ∀ k, k < 5 → parseFieldDescriptor (TX6 k).2.2.1 = some (tyX6 k) := by decide +kernel
abbrev cX6_init : ByteArray := prog_8_method_1_code
def yX6_init : MethodName := ⟨RX6, "<init>", "(LAlmanacOffice$Bytes;)V"⟩
abbrev cX6_next : ByteArray := prog_8_method_2_code
def yX6_next : MethodName := ⟨RX6, "next", "()V"⟩
abbrev cX6_isBlank : ByteArray := prog_8_method_3_code
def yX6_isBlank : MethodName := ⟨RX6, "isBlank", "(I)Z"⟩
abbrev cX6_readDigits : ByteArray := prog_8_method_4_code
def yX6_readDigits : MethodName := ⟨RX6, "readDigits", "()V"⟩
abbrev cX6_isWord : ByteArray := prog_8_method_5_code
def yX6_isWord : MethodName := ⟨RX6, "isWord", "(Ljava/lang/String;)Z"⟩
abbrev cX6_isSemicolon : ByteArray := prog_8_method_6_code
def yX6_isSemicolon : MethodName := ⟨RX6, "isSemicolon", "()Z"⟩
abbrev cX6_name : ByteArray := prog_8_method_7_code
def yX6_name : MethodName := ⟨RX6, "name", "()I"⟩
def RX7 : String := "AlmanacOffice$Sky"
def TX7 : u_T := fun k => match k with
  | 0 => ("AlmanacOffice$Sky", "odds", "[I", true)
  | 1 => ("AlmanacOffice$Sky", "drawn", "[I", true)
  | _ => ("AlmanacOffice$Sky", "seed", "I", false)
def tyX7 : Nat → FieldType := fun k => match k with
  | 0 => .array .int
  | 1 => .array .int
  | _ => .int
abbrev wsX70 : List Cond := u_ws RX7 TX7 3
theorem nmX7 : ∀ a, a < 3 → ∀ b, b < 3 → a ≠ b → (TX7 a).2.1 ≠ (TX7 b).2.1 := by decide +kernel
theorem tyX7_ok : ∀ k, k < 3 → parseFieldDescriptor (TX7 k).2.2.1 = some (tyX7 k) := by decide +kernel
abbrev cX7_init : ByteArray := prog_9_method_1_code
def yX7_init : MethodName := ⟨RX7, "<init>", "()V"⟩
abbrev cX7_sumOfOdds : ByteArray := prog_9_method_2_code
def yX7_sumOfOdds : MethodName := ⟨RX7, "sumOfOdds", "()I"⟩
abbrev cX7_seedAfter : ByteArray := prog_9_method_3_code
def yX7_seedAfter : MethodName := ⟨RX7, "seedAfter", "(I)I"⟩
abbrev cX7_weatherFor : ByteArray := prog_9_method_4_code
def yX7_weatherFor : MethodName := ⟨RX7, "weatherFor", "(I)I"⟩
abbrev cX7_draw : ByteArray := prog_9_method_5_code
def yX7_draw : MethodName := ⟨RX7, "draw", "()I"⟩
abbrev cX7_firstGreatest : ByteArray := prog_9_method_6_code
def yX7_firstGreatest : MethodName := ⟨RX7, "firstGreatest", "([I)I"⟩
abbrev cX7_lastLeast : ByteArray := prog_9_method_7_code
def yX7_lastLeast : MethodName := ⟨RX7, "lastLeast", "([I)I"⟩
abbrev cX7_closeYear : ByteArray := prog_9_method_8_code
def yX7_closeYear : MethodName := ⟨RX7, "closeYear", "()V"⟩
abbrev cX7_takeFrom : ByteArray := prog_9_method_9_code
def yX7_takeFrom : MethodName := ⟨RX7, "takeFrom", "(LAlmanacOffice$Sky;)V"⟩
def RX8 : String := "AlmanacOffice$State"
def TX8 : u_T := fun k => match k with
  | 0 => ("AlmanacOffice$State", "villages", "LAlmanacOffice$Villages;", true)
  | 1 => ("AlmanacOffice$State", "fairs", "LAlmanacOffice$Fairs;", true)
  | 2 => ("AlmanacOffice$State", "sky", "LAlmanacOffice$Sky;", true)
  | 3 => ("AlmanacOffice$State", "book", "LAlmanacOffice$Book;", true)
  | 4 => ("AlmanacOffice$State", "memory", "LAlmanacOffice$Memory;", true)
  | 5 => ("AlmanacOffice$State", "day", "I", false)
  | 6 => ("AlmanacOffice$State", "coins", "I", false)
  | 7 => ("AlmanacOffice$State", "hits", "I", false)
  | 8 => ("AlmanacOffice$State", "regrets", "I", false)
  | 9 => ("AlmanacOffice$State", "retractions", "I", false)
  | 10 => ("AlmanacOffice$State", "copiesSold", "I", false)
  | 11 => ("AlmanacOffice$State", "copiesGone", "I", false)
  | 12 => ("AlmanacOffice$State", "coinsEarned", "I", false)
  | _ => ("AlmanacOffice$State", "coinsPaidBack", "I", false)
def tyX8 : Nat → FieldType := fun k => match k with
  | 0 => .object "AlmanacOffice$Villages"
  | 1 => .object "AlmanacOffice$Fairs"
  | 2 => .object "AlmanacOffice$Sky"
  | 3 => .object "AlmanacOffice$Book"
  | 4 => .object "AlmanacOffice$Memory"
  | 5 => .int
  | 6 => .int
  | 7 => .int
  | 8 => .int
  | 9 => .int
  | 10 => .int
  | 11 => .int
  | 12 => .int
  | _ => .int
abbrev wsX80 : List Cond := u_ws RX8 TX8 14
theorem nmX8 : ∀ a, a < 14 → ∀ b, b < 14 → a ≠ b → (TX8 a).2.1 ≠ (TX8 b).2.1 := by decide +kernel
theorem tyX8_ok : ∀ k, k < 14 → parseFieldDescriptor (TX8 k).2.2.1 = some (tyX8 k) := by decide +kernel
abbrev cX8_init : ByteArray := prog_10_method_1_code
def yX8_init : MethodName := ⟨RX8, "<init>", "()V"⟩
abbrev cX8_clear : ByteArray := prog_10_method_2_code
def yX8_clear : MethodName := ⟨RX8, "clear", "()V"⟩
abbrev cX8_takeFrom : ByteArray := prog_10_method_3_code
def yX8_takeFrom : MethodName := ⟨RX8, "takeFrom", "(LAlmanacOffice$State;)V"⟩
abbrev cX8_refusalToPrint : ByteArray := prog_10_method_4_code
def yX8_refusalToPrint : MethodName := ⟨RX8, "refusalToPrint", "(II)I"⟩
abbrev cX8_canPayBackPage : ByteArray := prog_10_method_5_code
def yX8_canPayBackPage : MethodName := ⟨RX8, "canPayBackPage", "(I)Z"⟩
abbrev cX8_takeBackPage : ByteArray := prog_10_method_6_code
def yX8_takeBackPage : MethodName := ⟨RX8, "takeBackPage", "(I)I"⟩
abbrev cX8_letDaysPass : ByteArray := prog_10_method_7_code
def yX8_letDaysPass : MethodName := ⟨RX8, "letDaysPass", "(I)V"⟩
abbrev cX8_sellAt : ByteArray := prog_10_method_8_code
def yX8_sellAt : MethodName := ⟨RX8, "sellAt", "(I)V"⟩
abbrev cX8_judge : ByteArray := prog_10_method_9_code
def yX8_judge : MethodName := ⟨RX8, "judge", "(II)V"⟩
abbrev cX8_payBack : ByteArray := prog_10_method_10_code
def yX8_payBack : MethodName := ⟨RX8, "payBack", "(I)V"⟩
def RX9 : String := "AlmanacOffice$Villages"
def TX9 : u_T := fun k => match k with
  | 0 => ("AlmanacOffice$Villages", "names", "[I", true)
  | 1 => ("AlmanacOffice$Villages", "people", "[I", true)
  | 2 => ("AlmanacOffice$Villages", "trusts", "[I", true)
  | _ => ("AlmanacOffice$Villages", "count", "I", false)
def tyX9 : Nat → FieldType := fun k => match k with
  | 0 => .array .int
  | 1 => .array .int
  | 2 => .array .int
  | _ => .int
abbrev wsX90 : List Cond := u_ws RX9 TX9 4
theorem nmX9 : ∀ a, a < 4 → ∀ b, b < 4 → a ≠ b → (TX9 a).2.1 ≠ (TX9 b).2.1 := by decide +kernel
theorem tyX9_ok : ∀ k, k < 4 → parseFieldDescriptor (TX9 k).2.2.1 = some (tyX9 k) := by decide +kernel
abbrev cX9_init : ByteArray := prog_11_method_1_code
def yX9_init : MethodName := ⟨RX9, "<init>", "()V"⟩
abbrev cX9_has : ByteArray := prog_11_method_2_code
def yX9_has : MethodName := ⟨RX9, "has", "(I)Z"⟩
abbrev cX9_numberOf : ByteArray := prog_11_method_3_code
def yX9_numberOf : MethodName := ⟨RX9, "numberOf", "(I)I"⟩
abbrev cX9_add : ByteArray := prog_11_method_4_code
def yX9_add : MethodName := ⟨RX9, "add", "(III)V"⟩
abbrev cX9_changeTrust : ByteArray := prog_11_method_5_code
def yX9_changeTrust : MethodName := ⟨RX9, "changeTrust", "(II)V"⟩
abbrev cX9_wish : ByteArray := prog_11_method_6_code
def yX9_wish : MethodName := ⟨RX9, "wish", "(II)I"⟩
abbrev cX9_takeFrom : ByteArray := prog_11_method_8_code
def yX9_takeFrom : MethodName := ⟨RX9, "takeFrom", "(LAlmanacOffice$Villages;)V"⟩
def RX10 : String := "AlmanacOffice"
def TX10 : u_T := fun k => match k with
  | 0 => ("AlmanacOffice", "input", "LAlmanacOffice$Bytes;", true)
  | 1 => ("AlmanacOffice", "output", "LAlmanacOffice$Bytes;", true)
  | 2 => ("AlmanacOffice", "state", "LAlmanacOffice$State;", true)
  | 3 => ("AlmanacOffice", "draft", "LAlmanacOffice$State;", true)
  | 4 => ("AlmanacOffice", "history", "LAlmanacOffice$History;", true)
  | 5 => ("AlmanacOffice", "slots", "[LAlmanacOffice$State;", true)
  | 6 => ("AlmanacOffice", "slotIsFull", "[Z", true)
  | 7 => ("AlmanacOffice", "errorCode", "I", false)
  | _ => ("AlmanacOffice", "errorPosition", "I", false)
def tyX10 : Nat → FieldType := fun k => match k with
  | 0 => .object "AlmanacOffice$Bytes"
  | 1 => .object "AlmanacOffice$Bytes"
  | 2 => .object "AlmanacOffice$State"
  | 3 => .object "AlmanacOffice$State"
  | 4 => .object "AlmanacOffice$History"
  | 5 => .array (.object "AlmanacOffice$State")
  | 6 => .array .boolean
  | 7 => .int
  | _ => .int
abbrev wsX100 : List Cond := u_ws RX10 TX10 9
theorem nmX10 : ∀ a, a < 9 → ∀ b, b < 9 → a ≠ b → (TX10 a).2.1 ≠ (TX10 b).2.1 := by decide +kernel
theorem tyX10_ok : ∀ k, k < 9 → parseFieldDescriptor (TX10 k).2.2.1 = some (tyX10 k) := by decide +kernel
abbrev cX10_init : ByteArray := prog_1_method_1_code
def yX10_init : MethodName := ⟨RX10, "<init>", "()V"⟩
abbrev cX10_appendInput : ByteArray := prog_1_method_2_code
def yX10_appendInput : MethodName := ⟨RX10, "appendInput", "(IIIII)I"⟩
abbrev cX10_truncateInput : ByteArray := prog_1_method_3_code
def yX10_truncateInput : MethodName := ⟨RX10, "truncateInput", "(I)I"⟩
abbrev cX10_load : ByteArray := prog_1_method_4_code
def yX10_load : MethodName := ⟨RX10, "load", "()I"⟩
abbrev cX10_errorCode : ByteArray := prog_1_method_5_code
def yX10_errorCode : MethodName := ⟨RX10, "errorCode", "()I"⟩
abbrev cX10_day : ByteArray := prog_1_method_7_code
def yX10_day : MethodName := ⟨RX10, "day", "()I"⟩
abbrev cX10_seed : ByteArray := prog_1_method_8_code
def yX10_seed : MethodName := ⟨RX10, "seed", "()I"⟩
abbrev cX10_coins : ByteArray := prog_1_method_9_code
def yX10_coins : MethodName := ⟨RX10, "coins", "()I"⟩
abbrev cX10_fairCount : ByteArray := prog_1_method_11_code
def yX10_fairCount : MethodName := ⟨RX10, "fairCount", "()I"⟩
abbrev cX10_peopleOf : ByteArray := prog_1_method_13_code
def yX10_peopleOf : MethodName := ⟨RX10, "peopleOf", "(I)I"⟩
abbrev cX10_trustOf : ByteArray := prog_1_method_14_code
def yX10_trustOf : MethodName := ⟨RX10, "trustOf", "(I)I"⟩
abbrev cX10_oddsOf : ByteArray := prog_1_method_21_code
def yX10_oddsOf : MethodName := ⟨RX10, "oddsOf", "(I)I"⟩
abbrev cX10_drawnThisYear : ByteArray := prog_1_method_23_code
def yX10_drawnThisYear : MethodName := ⟨RX10, "drawnThisYear", "(I)I"⟩
abbrev cX10_forecastCount : ByteArray := prog_1_method_24_code
def yX10_forecastCount : MethodName := ⟨RX10, "forecastCount", "()I"⟩
abbrev cX10_weatherOf : ByteArray := prog_1_method_26_code
def yX10_weatherOf : MethodName := ⟨RX10, "weatherOf", "(II)I"⟩
abbrev cX10_soldOf : ByteArray := prog_1_method_27_code
def yX10_soldOf : MethodName := ⟨RX10, "soldOf", "(II)I"⟩
abbrev cX10_paidOf : ByteArray := prog_1_method_28_code
def yX10_paidOf : MethodName := ⟨RX10, "paidOf", "(II)I"⟩
abbrev cX10_pageOf : ByteArray := prog_1_method_29_code
def yX10_pageOf : MethodName := ⟨RX10, "pageOf", "(II)I"⟩
abbrev cX10_forecastAt : ByteArray := prog_1_method_30_code
def yX10_forecastAt : MethodName := ⟨RX10, "forecastAt", "(I)I"⟩
abbrev cX10_pageCount : ByteArray := prog_1_method_31_code
def yX10_pageCount : MethodName := ⟨RX10, "pageCount", "()I"⟩
abbrev cX10_regretCount : ByteArray := prog_1_method_37_code
def yX10_regretCount : MethodName := ⟨RX10, "regretCount", "()I"⟩
abbrev cX10_regretAt : ByteArray := prog_1_method_38_code
def yX10_regretAt : MethodName := ⟨RX10, "regretAt", "(I)I"⟩
abbrev cX10_hits : ByteArray := prog_1_method_39_code
def yX10_hits : MethodName := ⟨RX10, "hits", "()I"⟩
abbrev cX10_regrets : ByteArray := prog_1_method_40_code
def yX10_regrets : MethodName := ⟨RX10, "regrets", "()I"⟩
abbrev cX10_retractions : ByteArray := prog_1_method_41_code
def yX10_retractions : MethodName := ⟨RX10, "retractions", "()I"⟩
abbrev cX10_copyDifference : ByteArray := prog_1_method_46_code
def yX10_copyDifference : MethodName := ⟨RX10, "copyDifference", "()I"⟩
abbrev cX10_coinDifference : ByteArray := prog_1_method_47_code
def yX10_coinDifference : MethodName := ⟨RX10, "coinDifference", "()I"⟩
abbrev cX10_bookErrors : ByteArray := prog_1_method_48_code
def yX10_bookErrors : MethodName := ⟨RX10, "bookErrors", "()I"⟩
abbrev cX10_print : ByteArray := prog_1_method_51_code
def yX10_print : MethodName := ⟨RX10, "print", "(III)I"⟩
abbrev cX10_retract : ByteArray := prog_1_method_52_code
def yX10_retract : MethodName := ⟨RX10, "retract", "(I)I"⟩
abbrev cX10_setTrust : ByteArray := prog_1_method_53_code
def yX10_setTrust : MethodName := ⟨RX10, "setTrust", "(II)I"⟩
abbrev cX10_setPeople : ByteArray := prog_1_method_54_code
def yX10_setPeople : MethodName := ⟨RX10, "setPeople", "(II)I"⟩
abbrev cX10_setOdds : ByteArray := prog_1_method_55_code
def yX10_setOdds : MethodName := ⟨RX10, "setOdds", "(II)I"⟩
abbrev cX10_pass : ByteArray := prog_1_method_56_code
def yX10_pass : MethodName := ⟨RX10, "pass", "(I)I"⟩
abbrev cX10_requireVillage : ByteArray := prog_1_method_62_code
def yX10_requireVillage : MethodName := ⟨RX10, "requireVillage", "(I)V"⟩
abbrev cX10_requirePage : ByteArray := prog_1_method_64_code
def yX10_requirePage : MethodName := ⟨RX10, "requirePage", "(I)V"⟩
abbrev cX10_requireRange : ByteArray := prog_1_method_66_code
def yX10_requireRange : MethodName := ⟨RX10, "requireRange", "(III)V"⟩
abbrev cX10_requireForecast : ByteArray := prog_1_method_67_code
def yX10_requireForecast : MethodName := ⟨RX10, "requireForecast", "(II)I"⟩
abbrev cX10_isBetween : ByteArray := prog_1_method_70_code
def yX10_isBetween : MethodName := ⟨RX10, "isBetween", "(III)Z"⟩
abbrev cX10_isLetter : ByteArray := prog_1_method_71_code
def yX10_isLetter : MethodName := ⟨RX10, "isLetter", "(I)Z"⟩
abbrev cX10_isDigit : ByteArray := prog_1_method_72_code
def yX10_isDigit : MethodName := ⟨RX10, "isDigit", "(I)Z"⟩
abbrev cX10_placeIn : ByteArray := prog_1_method_73_code
def yX10_placeIn : MethodName := ⟨RX10, "placeIn", "([III)I"⟩
abbrev cX10_labelOf : ByteArray := prog_1_method_74_code
def yX10_labelOf : MethodName := ⟨RX10, "labelOf", "(II)I"⟩
def RX11 : String := "AlmanacOfficeLaw$Hand"
def TX11 : u_T := fun k => match k with
  | 0 => ("AlmanacOfficeLaw$Hand", "people", "[I", true)
  | 1 => ("AlmanacOfficeLaw$Hand", "trust", "[I", true)
  | 2 => ("AlmanacOfficeLaw$Hand", "odds", "[I", true)
  | 3 => ("AlmanacOfficeLaw$Hand", "drawn", "[I", true)
  | 4 => ("AlmanacOfficeLaw$Hand", "where", "[I", true)
  | 5 => ("AlmanacOfficeLaw$Hand", "period", "[I", true)
  | 6 => ("AlmanacOfficeLaw$Hand", "stock", "[I", true)
  | 7 => ("AlmanacOfficeLaw$Hand", "price", "[I", true)
  | 8 => ("AlmanacOfficeLaw$Hand", "book", "[[I", false)
  | 9 => ("AlmanacOfficeLaw$Hand", "regrets", "[I", false)
  | 10 => ("AlmanacOfficeLaw$Hand", "seed", "I", false)
  | 11 => ("AlmanacOfficeLaw$Hand", "day", "I", false)
  | 12 => ("AlmanacOfficeLaw$Hand", "coins", "I", false)
  | 13 => ("AlmanacOfficeLaw$Hand", "hits", "I", false)
  | 14 => ("AlmanacOfficeLaw$Hand", "misses", "I", false)
  | _ => ("AlmanacOfficeLaw$Hand", "retracted", "I", false)
def tyX11 : Nat → FieldType := fun k => match k with
  | 0 => .array .int
  | 1 => .array .int
  | 2 => .array .int
  | 3 => .array .int
  | 4 => .array .int
  | 5 => .array .int
  | 6 => .array .int
  | 7 => .array .int
  | 8 => .array (.array .int)
  | 9 => .array .int
  | 10 => .int
  | 11 => .int
  | 12 => .int
  | 13 => .int
  | 14 => .int
  | _ => .int
abbrev wsX110 : List Cond := u_ws RX11 TX11 16
theorem nmX11 : ∀ a, a < 16 → ∀ b, b < 16 → a ≠ b → (TX11 a).2.1 ≠ (TX11 b).2.1 := by decide +kernel
theorem tyX11_ok : ∀ k, k < 16 → parseFieldDescriptor (TX11 k).2.2.1 = some (tyX11 k) := by decide +kernel
abbrev cX11_init : ByteArray := prog_13_method_1_code
def yX11_init : MethodName := ⟨RX11, "<init>", "([I)V"⟩
abbrev cX11_with : ByteArray := prog_13_method_2_code
def yX11_with : MethodName := ⟨RX11, "with", "([[I[I)[[I"⟩
abbrev cX11_without : ByteArray := prog_13_method_3_code
def yX11_without : MethodName := ⟨RX11, "without", "([[II)[[I"⟩
abbrev cX11_find : ByteArray := prog_13_method_4_code
def yX11_find : MethodName := ⟨RX11, "find", "(II)I"⟩
abbrev cX11_remembers : ByteArray := prog_13_method_5_code
def yX11_remembers : MethodName := ⟨RX11, "remembers", "(I)V"⟩
abbrev cX11_fair : ByteArray := prog_13_method_6_code
def yX11_fair : MethodName := ⟨RX11, "fair", "(I)V"⟩
abbrev cX11_weather : ByteArray := prog_13_method_7_code
def yX11_weather : MethodName := ⟨RX11, "weather", "(I)V"⟩
abbrev cX11_passes : ByteArray := prog_13_method_8_code
def yX11_passes : MethodName := ⟨RX11, "passes", "()V"⟩
abbrev cX11_retracts : ByteArray := prog_13_method_9_code
def yX11_retracts : MethodName := ⟨RX11, "retracts", "(I)I"⟩
abbrev cX11_acts : ByteArray := prog_13_method_10_code
def yX11_acts : MethodName := ⟨RX11, "acts", "(I)I"⟩
abbrev cX11_agrees : ByteArray := prog_13_method_11_code
def yX11_agrees : MethodName := ⟨RX11, "agrees", "(LAlmanacOffice;)Z"⟩
def RX12 : String := "AlmanacOfficeModel"
def TX12 : u_T := fun k => match k with
  | _ => ("", "", "", false)
def tyX12 : Nat → FieldType := fun k => match k with
  | _ => .int
abbrev wsX120 : List Cond := u_ws RX12 TX12 0
theorem nmX12 : ∀ a, a < 0 → ∀ b, b < 0 → a ≠ b → (TX12 a).2.1 ≠ (TX12 b).2.1 := by decide +kernel
theorem tyX12_ok : ∀ k, k < 0 → parseFieldDescriptor (TX12 k).2.2.1 = some (tyX12 k) := by decide +kernel
def RJx145de : String := "java/io/Serializable"
def TJx145de : u_T := fun k => match k with
  | _ => ("", "", "", false)
def tyJx145de : Nat → FieldType := fun k => match k with
  | _ => .int
abbrev wsJx145de0 : List Cond := u_ws RJx145de TJx145de 0
theorem nmJx145de : ∀ a, a < 0 → ∀ b, b < 0 → a ≠ b → (TJx145de a).2.1 ≠ (TJx145de b).2.1 := by decide +kernel
theorem tyJx145de_ok : ∀ k, k < 0 → parseFieldDescriptor (TJx145de k).2.2.1 = some (tyJx145de k) := by decide +kernel
def RJ5 : String := "java/lang/AbstractStringBuilder"
def TJ5 : u_T := fun k => match k with
  | _ => ("", "", "", false)
def tyJ5 : Nat → FieldType := fun k => match k with
  | _ => .int
abbrev wsJ50 : List Cond := u_ws RJ5 TJ5 0
theorem nmJ5 : ∀ a, a < 0 → ∀ b, b < 0 → a ≠ b → (TJ5 a).2.1 ≠ (TJ5 b).2.1 := by decide +kernel
theorem tyJ5_ok : ∀ k, k < 0 → parseFieldDescriptor (TJ5 k).2.2.1 = some (tyJ5 k) := by decide +kernel
abbrev cJ5_init_d00df : ByteArray := prog_16_method_2_code
def yJ5_init_d00df : MethodName := ⟨RJ5, "<init>", "(I)V"⟩
abbrev cJ5_init_a7421 : ByteArray := prog_16_method_3_code
def yJ5_init_a7421 : MethodName := ⟨RJ5, "<init>", "(Ljava/lang/String;)V"⟩
abbrev cJ5_length_8abf5 : ByteArray := prog_16_method_6_code
def yJ5_length_8abf5 : MethodName := ⟨RJ5, "length", "()I"⟩
abbrev cJ5_ensureCapacityInternal_d00df : ByteArray := prog_16_method_9_code
def yJ5_ensureCapacityInternal_d00df : MethodName := ⟨RJ5, "ensureCapacityInternal", "(I)V"⟩
abbrev cJ5_newCapacity_0f7a4 : ByteArray := prog_16_method_10_code
def yJ5_newCapacity_0f7a4 : MethodName := ⟨RJ5, "newCapacity", "(I)I"⟩
abbrev cJ5_inflate_da8c8 : ByteArray := prog_16_method_11_code
def yJ5_inflate_da8c8 : MethodName := ⟨RJ5, "inflate", "()V"⟩
abbrev cJ5_append_cf1ce : ByteArray := prog_16_method_22_code
def yJ5_append_cf1ce : MethodName := ⟨RJ5, "append", "(Ljava/lang/String;)Ljava/lang/AbstractStringBuilder;"⟩
abbrev cJ5_appendNull_278bc : ByteArray := prog_16_method_26_code
def yJ5_appendNull_278bc : MethodName := ⟨RJ5, "appendNull", "()Ljava/lang/AbstractStringBuilder;"⟩
abbrev cJ5_append_3fe6f : ByteArray := prog_16_method_31_code
def yJ5_append_3fe6f : MethodName := ⟨RJ5, "append", "(C)Ljava/lang/AbstractStringBuilder;"⟩
abbrev cJ5_append_c97b9 : ByteArray := prog_16_method_32_code
def yJ5_append_c97b9 : MethodName := ⟨RJ5, "append", "(I)Ljava/lang/AbstractStringBuilder;"⟩
abbrev cJ5_getValue_6d5f1 : ByteArray := prog_16_method_64_code
def yJ5_getValue_6d5f1 : MethodName := ⟨RJ5, "getValue", "()[B"⟩
abbrev cJ5_isLatin1_aae02 : ByteArray := prog_16_method_68_code
def yJ5_isLatin1_aae02 : MethodName := ⟨RJ5, "isLatin1", "()Z"⟩
abbrev cJ5_inflateIfNeededFor_a7421 : ByteArray := prog_16_method_71_code
def yJ5_inflateIfNeededFor_a7421 : MethodName := ⟨RJ5, "inflateIfNeededFor", "(Ljava/lang/String;)V"⟩
abbrev cJ5_putStringAt_47b60 : ByteArray := prog_16_method_73_code
def yJ5_putStringAt_47b60 : MethodName := ⟨RJ5, "putStringAt", "(ILjava/lang/String;)V"⟩
def RJx2cfe8 : String := "java/lang/Appendable"
def TJx2cfe8 : u_T := fun k => match k with
  | _ => ("", "", "", false)
def tyJx2cfe8 : Nat → FieldType := fun k => match k with
  | _ => .int
abbrev wsJx2cfe80 : List Cond := u_ws RJx2cfe8 TJx2cfe8 0
theorem nmJx2cfe8 : ∀ a, a < 0 → ∀ b, b < 0 → a ≠ b → (TJx2cfe8 a).2.1 ≠ (TJx2cfe8 b).2.1 := by decide +kernel
theorem tyJx2cfe8_ok : ∀ k, k < 0 → parseFieldDescriptor (TJx2cfe8 k).2.2.1 = some (tyJx2cfe8 k) := by decide +kernel
def RJx9f9b0 : String := "java/lang/CharSequence"
def TJx9f9b0 : u_T := fun k => match k with
  | _ => ("", "", "", false)
def tyJx9f9b0 : Nat → FieldType := fun k => match k with
  | _ => .int
abbrev wsJx9f9b00 : List Cond := u_ws RJx9f9b0 TJx9f9b0 0
theorem nmJx9f9b0 : ∀ a, a < 0 → ∀ b, b < 0 → a ≠ b → (TJx9f9b0 a).2.1 ≠ (TJx9f9b0 b).2.1 := by decide +kernel
theorem tyJx9f9b0_ok : ∀ k, k < 0 → parseFieldDescriptor (TJx9f9b0 k).2.2.1 = some (tyJx9f9b0 k) := by decide +kernel
def RJx8e188 : String := "java/lang/Cloneable"
def TJx8e188 : u_T := fun k => match k with
  | _ => ("", "", "", false)
def tyJx8e188 : Nat → FieldType := fun k => match k with
  | _ => .int
abbrev wsJx8e1880 : List Cond := u_ws RJx8e188 TJx8e188 0
theorem nmJx8e188 : ∀ a, a < 0 → ∀ b, b < 0 → a ≠ b → (TJx8e188 a).2.1 ≠ (TJx8e188 b).2.1 := by decide +kernel
theorem tyJx8e188_ok : ∀ k, k < 0 → parseFieldDescriptor (TJx8e188 k).2.2.1 = some (tyJx8e188 k) := by decide +kernel
def RJxb160c : String := "java/lang/Comparable"
def TJxb160c : u_T := fun k => match k with
  | _ => ("", "", "", false)
def tyJxb160c : Nat → FieldType := fun k => match k with
  | _ => .int
abbrev wsJxb160c0 : List Cond := u_ws RJxb160c TJxb160c 0
theorem nmJxb160c : ∀ a, a < 0 → ∀ b, b < 0 → a ≠ b → (TJxb160c a).2.1 ≠ (TJxb160c b).2.1 := by decide +kernel
theorem tyJxb160c_ok : ∀ k, k < 0 → parseFieldDescriptor (TJxb160c k).2.2.1 = some (tyJxb160c k) := by decide +kernel
def RJ6 : String := "java/lang/Integer"
def TJ6 : u_T := fun k => match k with
  | _ => ("", "", "", false)
def tyJ6 : Nat → FieldType := fun k => match k with
  | _ => .int
abbrev wsJ60 : List Cond := u_ws RJ6 TJ6 0
theorem nmJ6 : ∀ a, a < 0 → ∀ b, b < 0 → a ≠ b → (TJ6 a).2.1 ≠ (TJ6 b).2.1 := by decide +kernel
theorem tyJ6_ok : ∀ k, k < 0 → parseFieldDescriptor (TJ6 k).2.2.1 = some (tyJ6 k) := by decide +kernel
abbrev cJ6_getChars_ba4f3 : ByteArray := prog_25_method_12_code
def yJ6_getChars_ba4f3 : MethodName := ⟨RJ6, "getChars", "(II[B)I"⟩
abbrev cJ6_stringSize_0f7a4 : ByteArray := prog_25_method_13_code
def yJ6_stringSize_0f7a4 : MethodName := ⟨RJ6, "stringSize", "(I)I"⟩
def RJ9 : String := "java/lang/Math"
def TJ9 : u_T := fun k => match k with
  | _ => ("", "", "", false)
def tyJ9 : Nat → FieldType := fun k => match k with
  | _ => .int
abbrev wsJ90 : List Cond := u_ws RJ9 TJ9 0
theorem nmJ9 : ∀ a, a < 0 → ∀ b, b < 0 → a ≠ b → (TJ9 a).2.1 ≠ (TJ9 b).2.1 := by decide +kernel
theorem tyJ9_ok : ∀ k, k < 0 → parseFieldDescriptor (TJ9 k).2.2.1 = some (tyJ9 k) := by decide +kernel
abbrev cJ9_max_7cf53 : ByteArray := prog_26_method_65_code
def yJ9_max_7cf53 : MethodName := ⟨RJ9, "max", "(II)I"⟩
abbrev cJ9_min_7cf53 : ByteArray := prog_26_method_69_code
def yJ9_min_7cf53 : MethodName := ⟨RJ9, "min", "(II)I"⟩
def RJxd2413 : String := "java/lang/Number"
def TJxd2413 : u_T := fun k => match k with
  | _ => ("", "", "", false)
def tyJxd2413 : Nat → FieldType := fun k => match k with
  | _ => .int
abbrev wsJxd24130 : List Cond := u_ws RJxd2413 TJxd2413 0
theorem nmJxd2413 : ∀ a, a < 0 → ∀ b, b < 0 → a ≠ b → (TJxd2413 a).2.1 ≠ (TJxd2413 b).2.1 := by decide +kernel
theorem tyJxd2413_ok : ∀ k, k < 0 → parseFieldDescriptor (TJxd2413 k).2.2.1 = some (tyJxd2413 k) := by decide +kernel
def RJ0 : String := "java/lang/String"
def TJ0 : u_T := fun k => match k with
  | 0 => ("java/lang/String", "value", "[B", true)
  | 1 => ("java/lang/String", "coder", "B", true)
  | 2 => ("java/lang/String", "hash", "I", false)
  | _ => ("java/lang/String", "hashIsZero", "Z", false)
def tyJ0 : Nat → FieldType := fun k => match k with
  | 0 => .array .byte
  | 1 => .byte
  | 2 => .int
  | _ => .boolean
abbrev wsJ00 : List Cond := u_ws RJ0 TJ0 4
theorem nmJ0 : ∀ a, a < 4 → ∀ b, b < 4 → a ≠ b → (TJ0 a).2.1 ≠ (TJ0 b).2.1 := by decide +kernel
theorem tyJ0_ok : ∀ k, k < 4 → parseFieldDescriptor (TJ0 k).2.2.1 = some (tyJ0 k) := by decide +kernel
abbrev cJ0_init_81219 : ByteArray := prog_29_method_53_code
def yJ0_init_81219 : MethodName := ⟨RJ0, "<init>", "(Ljava/lang/StringBuilder;)V"⟩
abbrev cJ0_length_8abf5 : ByteArray := prog_29_method_54_code
def yJ0_length_8abf5 : MethodName := ⟨RJ0, "length", "()I"⟩
abbrev cJ0_charAt_5068e : ByteArray := prog_29_method_56_code
def yJ0_charAt_5068e : MethodName := ⟨RJ0, "charAt", "(I)C"⟩
abbrev cJ0_getBytes_840e7 : ByteArray := prog_29_method_147_code
def yJ0_getBytes_840e7 : MethodName := ⟨RJ0, "getBytes", "([BIB)V"⟩
abbrev cJ0_init_db425 : ByteArray := prog_29_method_150_code
def yJ0_init_db425 : MethodName := ⟨RJ0, "<init>", "(Ljava/lang/AbstractStringBuilder;Ljava/lang/Void;)V"⟩
abbrev cJ0_coder_7d493 : ByteArray := prog_29_method_152_code
def yJ0_coder_7d493 : MethodName := ⟨RJ0, "coder", "()B"⟩
abbrev cJ0_isLatin1_aae02 : ByteArray := prog_29_method_154_code
def yJ0_isLatin1_aae02 : MethodName := ⟨RJ0, "isLatin1", "()Z"⟩
abbrev cJ0_checkIndex_df160 : ByteArray := prog_29_method_155_code
def yJ0_checkIndex_df160 : MethodName := ⟨RJ0, "checkIndex", "(II)V"⟩
abbrev cJ0_checkBoundsOffCount_cabcc : ByteArray := prog_29_method_157_code
def yJ0_checkBoundsOffCount_cabcc : MethodName := ⟨RJ0, "checkBoundsOffCount", "(III)I"⟩
abbrev cJ0_checkBoundsBeginEnd_23922 : ByteArray := prog_29_method_158_code
def yJ0_checkBoundsBeginEnd_23922 : MethodName := ⟨RJ0, "checkBoundsBeginEnd", "(III)V"⟩
def RJ4 : String := "java/lang/StringBuilder"
def TJ4 : u_T := fun k => match k with
  | 0 => ("java/lang/AbstractStringBuilder", "value", "[B", false)
  | 1 => ("java/lang/AbstractStringBuilder", "coder", "B", false)
  | 2 => ("java/lang/AbstractStringBuilder", "maybeLatin1", "Z", false)
  | _ => ("java/lang/AbstractStringBuilder", "count", "I", false)
def tyJ4 : Nat → FieldType := fun k => match k with
  | 0 => .array .byte
  | 1 => .byte
  | 2 => .boolean
  | _ => .int
abbrev wsJ40 : List Cond := u_ws RJ4 TJ4 4
theorem nmJ4 : ∀ a, a < 4 → ∀ b, b < 4 → a ≠ b → (TJ4 a).2.1 ≠ (TJ4 b).2.1 := by decide +kernel
theorem tyJ4_ok : ∀ k, k < 4 → parseFieldDescriptor (TJ4 k).2.2.1 = some (tyJ4 k) := by decide +kernel
abbrev cJ4_init_da8c8 : ByteArray := prog_30_method_1_code
def yJ4_init_da8c8 : MethodName := ⟨RJ4, "<init>", "()V"⟩
abbrev cJ4_init_a7421 : ByteArray := prog_30_method_3_code
def yJ4_init_a7421 : MethodName := ⟨RJ4, "<init>", "(Ljava/lang/String;)V"⟩
abbrev cJ4_append_15ec4 : ByteArray := prog_30_method_7_code
def yJ4_append_15ec4 : MethodName := ⟨RJ4, "append", "(Ljava/lang/String;)Ljava/lang/StringBuilder;"⟩
abbrev cJ4_append_cf468 : ByteArray := prog_30_method_14_code
def yJ4_append_cf468 : MethodName := ⟨RJ4, "append", "(C)Ljava/lang/StringBuilder;"⟩
abbrev cJ4_append_bf812 : ByteArray := prog_30_method_15_code
def yJ4_append_bf812 : MethodName := ⟨RJ4, "append", "(I)Ljava/lang/StringBuilder;"⟩
abbrev cJ4_toString_0e30d : ByteArray := prog_30_method_42_code
def yJ4_toString_0e30d : MethodName := ⟨RJ4, "toString", "()Ljava/lang/String;"⟩
abbrev cJ4_append_cf1ce : ByteArray := prog_30_method_80_code
def yJ4_append_cf1ce : MethodName := ⟨RJ4, "append", "(Ljava/lang/String;)Ljava/lang/AbstractStringBuilder;"⟩
abbrev cJ4_length_8abf5 : ByteArray := prog_30_method_93_code
def yJ4_length_8abf5 : MethodName := ⟨RJ4, "length", "()I"⟩
def RJ1 : String := "java/lang/StringLatin1"
def TJ1 : u_T := fun k => match k with
  | _ => ("", "", "", false)
def tyJ1 : Nat → FieldType := fun k => match k with
  | _ => .int
abbrev wsJ10 : List Cond := u_ws RJ1 TJ1 0
theorem nmJ1 : ∀ a, a < 0 → ∀ b, b < 0 → a ≠ b → (TJ1 a).2.1 ≠ (TJ1 b).2.1 := by decide +kernel
theorem tyJ1_ok : ∀ k, k < 0 → parseFieldDescriptor (TJ1 k).2.2.1 = some (tyJ1 k) := by decide +kernel
abbrev cJ1_charAt_3b067 : ByteArray := prog_31_method_2_code
def yJ1_charAt_3b067 : MethodName := ⟨RJ1, "charAt", "([BI)C"⟩
abbrev cJ1_canEncode_fc78d : ByteArray := prog_31_method_3_code
def yJ1_canEncode_fc78d : MethodName := ⟨RJ1, "canEncode", "(C)Z"⟩
abbrev cJ1_inflate_0e8fd : ByteArray := prog_31_method_50_code
def yJ1_inflate_0e8fd : MethodName := ⟨RJ1, "inflate", "([BI[BII)V"⟩
def RJ2 : String := "java/lang/StringUTF16"
def TJ2 : u_T := fun k => match k with
  | _ => ("", "", "", false)
def tyJ2 : Nat → FieldType := fun k => match k with
  | _ => .int
abbrev wsJ20 : List Cond := u_ws RJ2 TJ2 0
theorem nmJ2 : ∀ a, a < 0 → ∀ b, b < 0 → a ≠ b → (TJ2 a).2.1 ≠ (TJ2 b).2.1 := by decide +kernel
theorem tyJ2_ok : ∀ k, k < 0 → parseFieldDescriptor (TJ2 k).2.2.1 = some (tyJ2 k) := by decide +kernel
abbrev cJ2_newBytesFor_77867 : ByteArray := prog_32_method_2_code
def yJ2_newBytesFor_77867 : MethodName := ⟨RJ2, "newBytesFor", "(I)[B"⟩
abbrev cJ2_newBytesLength_0f7a4 : ByteArray := prog_32_method_3_code
def yJ2_newBytesLength_0f7a4 : MethodName := ⟨RJ2, "newBytesLength", "(I)I"⟩
abbrev cJ2_putChar_b72d1 : ByteArray := prog_32_method_4_code
def yJ2_putChar_b72d1 : MethodName := ⟨RJ2, "putChar", "([BII)V"⟩
abbrev cJ2_getChar_3b067 : ByteArray := prog_32_method_5_code
def yJ2_getChar_3b067 : MethodName := ⟨RJ2, "getChar", "([BI)C"⟩
abbrev cJ2_length_9d52b : ByteArray := prog_32_method_6_code
def yJ2_length_9d52b : MethodName := ⟨RJ2, "length", "([B)I"⟩
abbrev cJ2_coderFromArrayLen_85cad : ByteArray := prog_32_method_15_code
def yJ2_coderFromArrayLen_85cad : MethodName := ⟨RJ2, "coderFromArrayLen", "([BI)B"⟩
abbrev cJ2_compress_39247 : ByteArray := prog_32_method_17_code
def yJ2_compress_39247 : MethodName := ⟨RJ2, "compress", "([BII)[B"⟩
abbrev cJ2_compress_5af95 : ByteArray := prog_32_method_22_code
def yJ2_compress_5af95 : MethodName := ⟨RJ2, "compress", "([BI[BII)I"⟩
abbrev cJ2_putCharSB_b72d1 : ByteArray := prog_32_method_71_code
def yJ2_putCharSB_b72d1 : MethodName := ⟨RJ2, "putCharSB", "([BII)V"⟩
abbrev cJ2_getChars_46870 : ByteArray := prog_32_method_77_code
def yJ2_getChars_46870 : MethodName := ⟨RJ2, "getChars", "(III[B)I"⟩
abbrev cJ2_putCharsAt_cd4e5 : ByteArray := prog_32_method_81_code
def yJ2_putCharsAt_cd4e5 : MethodName := ⟨RJ2, "putCharsAt", "([BICCCC)I"⟩
abbrev cJ2_charAt_3b067 : ByteArray := prog_32_method_83_code
def yJ2_charAt_3b067 : MethodName := ⟨RJ2, "charAt", "([BI)C"⟩
abbrev cJ2_inflate_0e8fd : ByteArray := prog_32_method_86_code
def yJ2_inflate_0e8fd : MethodName := ⟨RJ2, "inflate", "([BI[BII)V"⟩
abbrev cJ2_getChars_ba4f3 : ByteArray := prog_32_method_89_code
def yJ2_getChars_ba4f3 : MethodName := ⟨RJ2, "getChars", "(II[B)I"⟩
abbrev cJ2_checkIndex_2214a : ByteArray := prog_32_method_91_code
def yJ2_checkIndex_2214a : MethodName := ⟨RJ2, "checkIndex", "(I[B)V"⟩
abbrev cJ2_checkBoundsBeginEnd_d044e : ByteArray := prog_32_method_93_code
def yJ2_checkBoundsBeginEnd_d044e : MethodName := ⟨RJ2, "checkBoundsBeginEnd", "(II[B)V"⟩
abbrev cJ2_checkBoundsOffCount_d044e : ByteArray := prog_32_method_94_code
def yJ2_checkBoundsOffCount_d044e : MethodName := ⟨RJ2, "checkBoundsOffCount", "(II[B)V"⟩
def RJ10 : String := "java/lang/System"
def TJ10 : u_T := fun k => match k with
  | _ => ("", "", "", false)
def tyJ10 : Nat → FieldType := fun k => match k with
  | _ => .int
abbrev wsJ100 : List Cond := u_ws RJ10 TJ10 0
theorem nmJ10 : ∀ a, a < 0 → ∀ b, b < 0 → a ≠ b → (TJ10 a).2.1 ≠ (TJ10 b).2.1 := by decide +kernel
theorem tyJ10_ok : ∀ k, k < 0 → parseFieldDescriptor (TJ10 k).2.2.1 = some (tyJ10 k) := by decide +kernel
def RJxfd54e : String := "java/lang/constant/Constable"
def TJxfd54e : u_T := fun k => match k with
  | _ => ("", "", "", false)
def tyJxfd54e : Nat → FieldType := fun k => match k with
  | _ => .int
abbrev wsJxfd54e0 : List Cond := u_ws RJxfd54e TJxfd54e 0
theorem nmJxfd54e : ∀ a, a < 0 → ∀ b, b < 0 → a ≠ b → (TJxfd54e a).2.1 ≠ (TJxfd54e b).2.1 := by decide +kernel
theorem tyJxfd54e_ok : ∀ k, k < 0 → parseFieldDescriptor (TJxfd54e k).2.2.1 = some (tyJxfd54e k) := by decide +kernel
def RJx3cf43 : String := "java/lang/constant/ConstantDesc"
def TJx3cf43 : u_T := fun k => match k with
  | _ => ("", "", "", false)
def tyJx3cf43 : Nat → FieldType := fun k => match k with
  | _ => .int
abbrev wsJx3cf430 : List Cond := u_ws RJx3cf43 TJx3cf43 0
theorem nmJx3cf43 : ∀ a, a < 0 → ∀ b, b < 0 → a ≠ b → (TJx3cf43 a).2.1 ≠ (TJx3cf43 b).2.1 := by decide +kernel
theorem tyJx3cf43_ok : ∀ k, k < 0 → parseFieldDescriptor (TJx3cf43 k).2.2.1 = some (tyJx3cf43 k) := by decide +kernel
def RJ7 : String := "java/util/Arrays"
def TJ7 : u_T := fun k => match k with
  | _ => ("", "", "", false)
def tyJ7 : Nat → FieldType := fun k => match k with
  | _ => .int
abbrev wsJ70 : List Cond := u_ws RJ7 TJ7 0
theorem nmJ7 : ∀ a, a < 0 → ∀ b, b < 0 → a ≠ b → (TJ7 a).2.1 ≠ (TJ7 b).2.1 := by decide +kernel
theorem tyJ7_ok : ∀ k, k < 0 → parseFieldDescriptor (TJ7 k).2.2.1 = some (tyJ7 k) := by decide +kernel
abbrev cJ7_copyOf_9075b : ByteArray := prog_37_method_121_code
def yJ7_copyOf_9075b : MethodName := ⟨RJ7, "copyOf", "([BI)[B"⟩
abbrev cJ7_checkLength_df160 : ByteArray := prog_37_method_131_code
def yJ7_checkLength_df160 : MethodName := ⟨RJ7, "checkLength", "(II)V"⟩
abbrev cJ7_copyOfRange_39247 : ByteArray := prog_37_method_132_code
def yJ7_copyOfRange_39247 : MethodName := ⟨RJ7, "copyOfRange", "([BII)[B"⟩
abbrev cJ7_copyOfRangeByte_39247 : ByteArray := prog_37_method_133_code
def yJ7_copyOfRangeByte_39247 : MethodName := ⟨RJ7, "copyOfRangeByte", "([BII)[B"⟩
def RJ8 : String := "jdk/internal/util/ArraysSupport"
def TJ8 : u_T := fun k => match k with
  | _ => ("", "", "", false)
def tyJ8 : Nat → FieldType := fun k => match k with
  | _ => .int
abbrev wsJ80 : List Cond := u_ws RJ8 TJ8 0
theorem nmJ8 : ∀ a, a < 0 → ∀ b, b < 0 → a ≠ b → (TJ8 a).2.1 ≠ (TJ8 b).2.1 := by decide +kernel
theorem tyJ8_ok : ∀ k, k < 0 → parseFieldDescriptor (TJ8 k).2.2.1 = some (tyJ8 k) := by decide +kernel
abbrev cJ8_newLength_cabcc : ByteArray := prog_39_method_27_code
def yJ8_newLength_cabcc : MethodName := ⟨RJ8, "newLength", "(III)I"⟩
abbrev cJ8_hugeLength_7cf53 : ByteArray := prog_39_method_28_code
def yJ8_hugeLength_7cf53 : MethodName := ⟨RJ8, "hugeLength", "(II)I"⟩
def RJ3 : String := "jdk/internal/util/Preconditions"
def TJ3 : u_T := fun k => match k with
  | _ => ("", "", "", false)
def tyJ3 : Nat → FieldType := fun k => match k with
  | _ => .int
abbrev wsJ30 : List Cond := u_ws RJ3 TJ3 0
theorem nmJ3 : ∀ a, a < 0 → ∀ b, b < 0 → a ≠ b → (TJ3 a).2.1 ≠ (TJ3 b).2.1 := by decide +kernel
theorem tyJ3_ok : ∀ k, k < 0 → parseFieldDescriptor (TJ3 k).2.2.1 = some (tyJ3 k) := by decide +kernel
abbrev cJ3_checkIndex_8e157 : ByteArray := prog_40_method_11_code
def yJ3_checkIndex_8e157 : MethodName := ⟨RJ3, "checkIndex", "(IILjava/util/function/BiFunction;)I"⟩
abbrev cJ3_checkFromToIndex_8c36e : ByteArray := prog_40_method_12_code
def yJ3_checkFromToIndex_8c36e : MethodName := ⟨RJ3, "checkFromToIndex", "(IIILjava/util/function/BiFunction;)I"⟩
abbrev cJ3_checkFromIndexSize_8c36e : ByteArray := prog_40_method_13_code
def yJ3_checkFromIndexSize_8c36e : MethodName := ⟨RJ3, "checkFromIndexSize", "(IIILjava/util/function/BiFunction;)I"⟩
def RL : String := "AlmanacOfficeLaw"
abbrev cL_cell : ByteArray := method_2_code
def yL_cell : MethodName := ⟨RL, "cell", "([II)I"⟩
abbrev cL_says : ByteArray := method_3_code
def yL_says : MethodName := ⟨RL, "says", "(LAlmanacOffice;Ljava/lang/String;)V"⟩
abbrev cL_loaded : ByteArray := method_4_code
def yL_loaded : MethodName := ⟨RL, "loaded", "(LAlmanacOffice;)I"⟩
abbrev cL_odds : ByteArray := method_5_code
def yL_odds : MethodName := ⟨RL, "odds", "([II)I"⟩
abbrev cL_people : ByteArray := method_6_code
def yL_people : MethodName := ⟨RL, "people", "([II)I"⟩
abbrev cL_trust : ByteArray := method_7_code
def yL_trust : MethodName := ⟨RL, "trust", "([II)I"⟩
abbrev cL_place : ByteArray := method_8_code
def yL_place : MethodName := ⟨RL, "place", "([II)I"⟩
abbrev cL_period : ByteArray := method_9_code
def yL_period : MethodName := ⟨RL, "period", "([II)I"⟩
abbrev cL_stock : ByteArray := method_10_code
def yL_stock : MethodName := ⟨RL, "stock", "([II)I"⟩
abbrev cL_price : ByteArray := method_11_code
def yL_price : MethodName := ⟨RL, "price", "([II)I"⟩
abbrev cL_text : ByteArray := method_12_code
def yL_text : MethodName := ⟨RL, "text", "([I)Ljava/lang/String;"⟩
abbrev cL_acts : ByteArray := method_13_code
def yL_acts : MethodName := ⟨RL, "acts", "(LAlmanacOffice;I)I"⟩
abbrev cL_law : ByteArray := code
def yL_law : MethodName := ⟨RL, "law", "([I)Z"⟩
theorem wsL_law_x0 : ∀ w ∈ (vx_at0 RX10 76 "java/lang/IllegalStateException" ["java/lang/RuntimeException", "java/lang/Exception"]).filter goodWord, w ∈ lw_tbl := by decide +kernel
theorem wsL_law_x1 : ∀ w ∈ (vx_at0 RX10 95 "java/lang/IllegalArgumentException" ["java/lang/RuntimeException", "java/lang/Exception"]).filter goodWord, w ∈ lw_tbl := by decide +kernel
theorem wsL_law_x2 : ∀ w ∈ (vx_at0 RX10 245 "java/lang/IndexOutOfBoundsException" ["java/lang/RuntimeException", "java/lang/Exception"]).filter goodWord, w ∈ lw_tbl := by decide +kernel
theorem wsL_law_x3 : ∀ w ∈ (vx_at0 RX10 207 "java/util/NoSuchElementException" ["java/lang/RuntimeException", "java/lang/Exception"]).filter goodWord, w ∈ lw_tbl := by decide +kernel
abbrev vwCl : List vw_C := [(RX0, TX0, 6), (RX1, TX1, 2), (RX2, TX2, 6), (RX3, TX3, 3), (RX4, TX4, 2), (RX5, TX5, 4), (RX6, TX6, 5), (RX7, TX7, 3), (RX8, TX8, 14), (RX9, TX9, 4), (RX10, TX10, 9), (RX11, TX11, 16), (RJ0, TJ0, 4), (RJ4, TJ4, 4)]
end
section
/-! the good words of the tables: every method's words are its own code and these; a row for each: it is one of them -/
def GW : List Cond := lw_tbl.filter goodWord
theorem gw_mem {w : Cond} (h : w ∈ lw_tbl) (g : goodWord w = true) : w ∈ GW := List.mem_filter.mpr ⟨h, g⟩
theorem gw_good : ∀ w ∈ GW, (w.onTables && w.keeps) = true ∨ ∃ ty, w = .arrayClass ty := fun w h => good_of_word (List.mem_filter.mp h).2
theorem gw_sub {ws : List Cond} (h : ∀ w ∈ ws, w ∈ lw_tbl) (g : ws.all goodWord = true) : ∀ w ∈ ws, w ∈ GW := fun w hw => gw_mem (h w hw) (List.all_eq_true.mp g w hw)
theorem gw_at0 {w : Cond} (i : Nat) (h : (k2_sels lw_privs)[i]? = some w) (g : goodWord w = true) : w ∈ GW := gw_mem (List.mem_append_left _ (List.mem_of_getElem? h)) g
theorem gw_at1 {w : Cond} (i : Nat) (h : tables_1_1[i]? = some w) (g : goodWord w = true) : w ∈ GW := gw_mem (List.mem_append_right _ (List.mem_append_left _ (List.mem_of_getElem? h))) g
theorem gw_at2 {w : Cond} (i : Nat) (h : tables_1_2[i]? = some w) (g : goodWord w = true) : w ∈ GW := gw_mem (List.mem_append_right _ (List.mem_append_right _ (List.mem_append_left _ (List.mem_of_getElem? h)))) g
theorem gw_at3 {w : Cond} (i : Nat) (h : tables_1_3[i]? = some w) (g : goodWord w = true) : w ∈ GW := gw_mem (List.mem_append_right _ (List.mem_append_right _ (List.mem_append_right _ (List.mem_append_left _ (List.mem_of_getElem? h))))) g
theorem gw_at4 {w : Cond} (i : Nat) (h : tables_1_4[i]? = some w) (g : goodWord w = true) : w ∈ GW := gw_mem (List.mem_append_right _ (List.mem_append_right _ (List.mem_append_right _ (List.mem_append_right _ (List.mem_append_left _ (List.mem_of_getElem? h)))))) g
theorem gw_at5 {w : Cond} (i : Nat) (h : tables_1_5[i]? = some w) (g : goodWord w = true) : w ∈ GW := gw_mem (List.mem_append_right _ (List.mem_append_right _ (List.mem_append_right _ (List.mem_append_right _ (List.mem_append_right _ (List.mem_append_left _ (List.mem_of_getElem? h))))))) g
theorem gw_at6 {w : Cond} (i : Nat) (h : tables_1_6[i]? = some w) (g : goodWord w = true) : w ∈ GW := gw_mem (List.mem_append_right _ (List.mem_append_right _ (List.mem_append_right _ (List.mem_append_right _ (List.mem_append_right _ (List.mem_append_right _ (List.mem_of_getElem? h))))))) g
theorem we_X5_readAlmanac : Cond.selects RX5 yX5_readAlmanac yX5_readAlmanac ∈ GW := gw_at0 0 (by decide +kernel) (by decide +kernel)
theorem we_X6_isBlank : Cond.selects RX6 yX6_isBlank yX6_isBlank ∈ GW := gw_at0 1 (by decide +kernel) (by decide +kernel)
theorem we_X6_readDigits : Cond.selects RX6 yX6_readDigits yX6_readDigits ∈ GW := gw_at0 2 (by decide +kernel) (by decide +kernel)
theorem we_X5_fail : Cond.selects RX5 yX5_fail yX5_fail ∈ GW := gw_at0 3 (by decide +kernel) (by decide +kernel)
theorem we_X5_readNumber : Cond.selects RX5 yX5_readNumber yX5_readNumber ∈ GW := gw_at0 4 (by decide +kernel) (by decide +kernel)
theorem we_X5_readSemicolon : Cond.selects RX5 yX5_readSemicolon yX5_readSemicolon ∈ GW := gw_at0 5 (by decide +kernel) (by decide +kernel)
theorem we_X5_readStatement : Cond.selects RX5 yX5_readStatement yX5_readStatement ∈ GW := gw_at0 6 (by decide +kernel) (by decide +kernel)
theorem we_X5_readVillage : Cond.selects RX5 yX5_readVillage yX5_readVillage ∈ GW := gw_at0 7 (by decide +kernel) (by decide +kernel)
theorem we_X5_readNewName : Cond.selects RX5 yX5_readNewName yX5_readNewName ∈ GW := gw_at0 8 (by decide +kernel) (by decide +kernel)
theorem we_X5_readFair : Cond.selects RX5 yX5_readFair yX5_readFair ∈ GW := gw_at0 9 (by decide +kernel) (by decide +kernel)
theorem we_X5_readKnownVillage : Cond.selects RX5 yX5_readKnownVillage yX5_readKnownVillage ∈ GW := gw_at0 10 (by decide +kernel) (by decide +kernel)
theorem we_X5_readSay : Cond.selects RX5 yX5_readSay yX5_readSay ∈ GW := gw_at0 11 (by decide +kernel) (by decide +kernel)
theorem we_X5_weatherOfToken : Cond.selects RX5 yX5_weatherOfToken yX5_weatherOfToken ∈ GW := gw_at0 12 (by decide +kernel) (by decide +kernel)
theorem we_X5_readRetract : Cond.selects RX5 yX5_readRetract yX5_readRetract ∈ GW := gw_at0 13 (by decide +kernel) (by decide +kernel)
theorem we_X8_payBack : Cond.selects RX8 yX8_payBack yX8_payBack ∈ GW := gw_at0 14 (by decide +kernel) (by decide +kernel)
theorem we_X5_readPass : Cond.selects RX5 yX5_readPass yX5_readPass ∈ GW := gw_at0 15 (by decide +kernel) (by decide +kernel)
theorem we_X8_sellAt : Cond.selects RX8 yX8_sellAt yX8_sellAt ∈ GW := gw_at0 16 (by decide +kernel) (by decide +kernel)
theorem we_X8_judge : Cond.selects RX8 yX8_judge yX8_judge ∈ GW := gw_at0 17 (by decide +kernel) (by decide +kernel)
theorem we_X11_find : Cond.selects RX11 yX11_find yX11_find ∈ GW := gw_at0 18 (by decide +kernel) (by decide +kernel)
theorem we_X11_retracts : Cond.selects RX11 yX11_retracts yX11_retracts ∈ GW := gw_at0 19 (by decide +kernel) (by decide +kernel)
theorem we_X11_passes : Cond.selects RX11 yX11_passes yX11_passes ∈ GW := gw_at0 20 (by decide +kernel) (by decide +kernel)
theorem we_X11_fair : Cond.selects RX11 yX11_fair yX11_fair ∈ GW := gw_at0 21 (by decide +kernel) (by decide +kernel)
theorem we_X11_weather : Cond.selects RX11 yX11_weather yX11_weather ∈ GW := gw_at0 22 (by decide +kernel) (by decide +kernel)
theorem we_X11_remembers : Cond.selects RX11 yX11_remembers yX11_remembers ∈ GW := gw_at0 23 (by decide +kernel) (by decide +kernel)
theorem we_X10_requireVillage : Cond.selects RX10 yX10_requireVillage yX10_requireVillage ∈ GW := gw_at0 24 (by decide +kernel) (by decide +kernel)
theorem we_X10_requireRange : Cond.selects RX10 yX10_requireRange yX10_requireRange ∈ GW := gw_at0 26 (by decide +kernel) (by decide +kernel)
theorem we_X10_requireForecast : Cond.selects RX10 yX10_requireForecast yX10_requireForecast ∈ GW := gw_at0 27 (by decide +kernel) (by decide +kernel)
theorem we_X10_requirePage : Cond.selects RX10 yX10_requirePage yX10_requirePage ∈ GW := gw_at0 28 (by decide +kernel) (by decide +kernel)
theorem wi_L : Cond.initialized RL ∈ GW := gw_at1 0 (by decide +kernel) (by decide +kernel)
theorem wi_X10 : Cond.initialized RX10 ∈ GW := gw_at1 1 (by decide +kernel) (by decide +kernel)
theorem wi_X1 : Cond.initialized RX1 ∈ GW := gw_at1 2 (by decide +kernel) (by decide +kernel)
theorem wi_X8 : Cond.initialized RX8 ∈ GW := gw_at1 3 (by decide +kernel) (by decide +kernel)
theorem wi_X9 : Cond.initialized RX9 ∈ GW := gw_at1 4 (by decide +kernel) (by decide +kernel)
theorem wi_X2 : Cond.initialized RX2 ∈ GW := gw_at1 5 (by decide +kernel) (by decide +kernel)
theorem wi_X7 : Cond.initialized RX7 ∈ GW := gw_at1 6 (by decide +kernel) (by decide +kernel)
theorem wi_X0 : Cond.initialized RX0 ∈ GW := gw_at1 7 (by decide +kernel) (by decide +kernel)
theorem wi_X4 : Cond.initialized RX4 ∈ GW := gw_at1 8 (by decide +kernel) (by decide +kernel)
theorem wi_X3 : Cond.initialized RX3 ∈ GW := gw_at1 9 (by decide +kernel) (by decide +kernel)
theorem wi_J0 : Cond.initialized RJ0 ∈ GW := gw_at1 10 (by decide +kernel) (by decide +kernel)
theorem wi_J1 : Cond.initialized RJ1 ∈ GW := gw_at1 11 (by decide +kernel) (by decide +kernel)
theorem wi_J3 : Cond.initialized RJ3 ∈ GW := gw_at1 12 (by decide +kernel) (by decide +kernel)
theorem wi_J2 : Cond.initialized RJ2 ∈ GW := gw_at1 13 (by decide +kernel) (by decide +kernel)
theorem wi_X5 : Cond.initialized RX5 ∈ GW := gw_at1 14 (by decide +kernel) (by decide +kernel)
theorem wi_X6 : Cond.initialized RX6 ∈ GW := gw_at1 15 (by decide +kernel) (by decide +kernel)
theorem wi_J9 : Cond.initialized RJ9 ∈ GW := gw_at1 16 (by decide +kernel) (by decide +kernel)
theorem wi_J10 : Cond.initialized RJ10 ∈ GW := gw_at1 17 (by decide +kernel) (by decide +kernel)
theorem wi_J5 : Cond.initialized RJ5 ∈ GW := gw_at1 18 (by decide +kernel) (by decide +kernel)
theorem wi_J4 : Cond.initialized RJ4 ∈ GW := gw_at1 19 (by decide +kernel) (by decide +kernel)
theorem wi_J8 : Cond.initialized RJ8 ∈ GW := gw_at1 20 (by decide +kernel) (by decide +kernel)
theorem wi_J7 : Cond.initialized RJ7 ∈ GW := gw_at1 21 (by decide +kernel) (by decide +kernel)
theorem wi_Jxd2413 : Cond.initialized RJxd2413 ∈ GW := gw_at1 22 (by decide +kernel) (by decide +kernel)
theorem wi_J6 : Cond.initialized RJ6 ∈ GW := gw_at1 23 (by decide +kernel) (by decide +kernel)
theorem wi_Exception : Cond.initialized "java/lang/Exception" ∈ GW := gw_at1 25 (by decide +kernel) (by decide +kernel)
theorem wi_RuntimeException : Cond.initialized "java/lang/RuntimeException" ∈ GW := gw_at1 26 (by decide +kernel) (by decide +kernel)
theorem wi_IllegalArgumentException : Cond.initialized "java/lang/IllegalArgumentException" ∈ GW := gw_at1 27 (by decide +kernel) (by decide +kernel)
theorem wi_IllegalStateException : Cond.initialized "java/lang/IllegalStateException" ∈ GW := gw_at1 28 (by decide +kernel) (by decide +kernel)
theorem wi_X11 : Cond.initialized RX11 ∈ GW := gw_at1 29 (by decide +kernel) (by decide +kernel)
theorem wi_IndexOutOfBoundsException : Cond.initialized "java/lang/IndexOutOfBoundsException" ∈ GW := gw_at1 30 (by decide +kernel) (by decide +kernel)
theorem wi_NoSuchElementException : Cond.initialized "java/util/NoSuchElementException" ∈ GW := gw_at1 31 (by decide +kernel) (by decide +kernel)
theorem wk_L_19 : Cond.classLink RL 19 RX10 ∈ GW := gw_at1 32 (by decide +kernel) (by decide +kernel)
theorem wt_X10 : Cond.instantiable RX10 9 ∈ GW := gw_at1 33 (by decide +kernel) (by decide +kernel)
theorem wl_L_114 : Cond.methodLink RL 114 yX10_init ∈ GW := gw_at1 34 (by decide +kernel) (by decide +kernel)
theorem wn_X10_init : Cond.instanceMethod yX10_init ∈ GW := gw_at1 35 (by decide +kernel) (by decide +kernel)
theorem wc_X10_init : Cond.code yX10_init cX10_init 3 none ∈ GW := gw_at1 36 (by decide +kernel) (by decide +kernel)
theorem wl_X10_1 : Cond.methodLink RX10 1 objectInit ∈ GW := gw_at1 37 (by decide +kernel) (by decide +kernel)
theorem wn_objectInit : Cond.instanceMethod objectInit ∈ GW := gw_at1 38 (by decide +kernel) (by decide +kernel)
theorem wc_objectInit : Cond.code objectInit ⟨#[0xb1]⟩ 1 none ∈ GW := gw_at1 39 (by decide +kernel) (by decide +kernel)
theorem wk_X10_7 : Cond.classLink RX10 7 RX1 ∈ GW := gw_at1 40 (by decide +kernel) (by decide +kernel)
theorem wt_X1 : Cond.instantiable RX1 2 ∈ GW := gw_at1 41 (by decide +kernel) (by decide +kernel)
theorem wn_X1_init : Cond.instanceMethod yX1_init ∈ GW := gw_at1 43 (by decide +kernel) (by decide +kernel)
theorem wc_X1_init : Cond.code yX1_init cX1_init 1 none ∈ GW := gw_at1 44 (by decide +kernel) (by decide +kernel)
theorem wl_X1_3 : Cond.methodLink RX1 3 objectInit ∈ GW := gw_at1 45 (by decide +kernel) (by decide +kernel)
theorem wf_X1_11 : Cond.fieldLink RX1 11 "AlmanacOffice$Bytes" "row" "[B" ∈ GW := gw_at1 46 (by decide +kernel) (by decide +kernel)
theorem wf_X1_15 : Cond.fieldLink RX1 15 "AlmanacOffice$Bytes" "length" "I" ∈ GW := gw_at1 47 (by decide +kernel) (by decide +kernel)
theorem wf_X6_28 : Cond.fieldLink RX6 28 "AlmanacOffice$Bytes" "length" "I" ∈ GW := gw_at1 48 (by decide +kernel) (by decide +kernel)
theorem wf_X10_81 : Cond.fieldLink RX10 81 "AlmanacOffice$Bytes" "length" "I" ∈ GW := gw_at1 49 (by decide +kernel) (by decide +kernel)
theorem wa_byte : Cond.arrayClass (FieldType.byte) ∈ GW := gw_at1 55 (by decide +kernel) (by decide +kernel)
theorem wk_X10_19 : Cond.classLink RX10 19 RX8 ∈ GW := gw_at1 56 (by decide +kernel) (by decide +kernel)
theorem wt_X8 : Cond.instantiable RX8 14 ∈ GW := gw_at1 57 (by decide +kernel) (by decide +kernel)
theorem wn_X8_init : Cond.instanceMethod yX8_init ∈ GW := gw_at1 59 (by decide +kernel) (by decide +kernel)
theorem wc_X8_init : Cond.code yX8_init cX8_init 1 none ∈ GW := gw_at1 60 (by decide +kernel) (by decide +kernel)
theorem wl_X8_3 : Cond.methodLink RX8 3 objectInit ∈ GW := gw_at1 61 (by decide +kernel) (by decide +kernel)
theorem wk_X8_9 : Cond.classLink RX8 9 RX9 ∈ GW := gw_at1 62 (by decide +kernel) (by decide +kernel)
theorem wt_X9 : Cond.instantiable RX9 4 ∈ GW := gw_at1 63 (by decide +kernel) (by decide +kernel)
theorem wn_X9_init : Cond.instanceMethod yX9_init ∈ GW := gw_at1 65 (by decide +kernel) (by decide +kernel)
theorem wc_X9_init : Cond.code yX9_init cX9_init 1 none ∈ GW := gw_at1 66 (by decide +kernel) (by decide +kernel)
theorem wl_X9_3 : Cond.methodLink RX9 3 objectInit ∈ GW := gw_at1 67 (by decide +kernel) (by decide +kernel)
theorem wf_X9_9 : Cond.fieldLink RX9 9 "AlmanacOffice$Villages" "names" "[I" ∈ GW := gw_at1 68 (by decide +kernel) (by decide +kernel)
theorem wf_X9_15 : Cond.fieldLink RX9 15 "AlmanacOffice$Villages" "people" "[I" ∈ GW := gw_at1 69 (by decide +kernel) (by decide +kernel)
theorem wf_X10_142 : Cond.fieldLink RX10 142 "AlmanacOffice$Villages" "people" "[I" ∈ GW := gw_at1 70 (by decide +kernel) (by decide +kernel)
theorem wf_X9_18 : Cond.fieldLink RX9 18 "AlmanacOffice$Villages" "trusts" "[I" ∈ GW := gw_at1 71 (by decide +kernel) (by decide +kernel)
theorem wf_X10_146 : Cond.fieldLink RX10 146 "AlmanacOffice$Villages" "trusts" "[I" ∈ GW := gw_at1 72 (by decide +kernel) (by decide +kernel)
theorem wf_X9_21 : Cond.fieldLink RX9 21 "AlmanacOffice$Villages" "count" "I" ∈ GW := gw_at1 73 (by decide +kernel) (by decide +kernel)
theorem wf_X8_74 : Cond.fieldLink RX8 74 "AlmanacOffice$Villages" "count" "I" ∈ GW := gw_at1 74 (by decide +kernel) (by decide +kernel)
theorem wf_X10_103 : Cond.fieldLink RX10 103 "AlmanacOffice$Villages" "count" "I" ∈ GW := gw_at1 75 (by decide +kernel) (by decide +kernel)
theorem wf_X5_114 : Cond.fieldLink RX5 114 "AlmanacOffice$Villages" "count" "I" ∈ GW := gw_at1 76 (by decide +kernel) (by decide +kernel)
theorem wa_int : Cond.arrayClass (FieldType.int) ∈ GW := gw_at1 86 (by decide +kernel) (by decide +kernel)
theorem wk_X8_18 : Cond.classLink RX8 18 RX2 ∈ GW := gw_at1 87 (by decide +kernel) (by decide +kernel)
theorem wt_X2 : Cond.instantiable RX2 6 ∈ GW := gw_at1 88 (by decide +kernel) (by decide +kernel)
theorem wn_X2_init : Cond.instanceMethod yX2_init ∈ GW := gw_at1 90 (by decide +kernel) (by decide +kernel)
theorem wc_X2_init : Cond.code yX2_init cX2_init 1 none ∈ GW := gw_at1 91 (by decide +kernel) (by decide +kernel)
theorem wl_X2_3 : Cond.methodLink RX2 3 objectInit ∈ GW := gw_at1 92 (by decide +kernel) (by decide +kernel)
theorem wf_X2_9 : Cond.fieldLink RX2 9 "AlmanacOffice$Fairs" "names" "[I" ∈ GW := gw_at1 93 (by decide +kernel) (by decide +kernel)
theorem wf_X2_15 : Cond.fieldLink RX2 15 "AlmanacOffice$Fairs" "villages" "[I" ∈ GW := gw_at1 94 (by decide +kernel) (by decide +kernel)
theorem wf_X8_151 : Cond.fieldLink RX8 151 "AlmanacOffice$Fairs" "villages" "[I" ∈ GW := gw_at1 95 (by decide +kernel) (by decide +kernel)
theorem wf_X2_18 : Cond.fieldLink RX2 18 "AlmanacOffice$Fairs" "periods" "[I" ∈ GW := gw_at1 96 (by decide +kernel) (by decide +kernel)
theorem wf_X2_21 : Cond.fieldLink RX2 21 "AlmanacOffice$Fairs" "stocks" "[I" ∈ GW := gw_at1 97 (by decide +kernel) (by decide +kernel)
theorem wf_X8_152 : Cond.fieldLink RX8 152 "AlmanacOffice$Fairs" "stocks" "[I" ∈ GW := gw_at1 98 (by decide +kernel) (by decide +kernel)
theorem wf_X2_24 : Cond.fieldLink RX2 24 "AlmanacOffice$Fairs" "prices" "[I" ∈ GW := gw_at1 99 (by decide +kernel) (by decide +kernel)
theorem wf_X8_166 : Cond.fieldLink RX8 166 "AlmanacOffice$Fairs" "prices" "[I" ∈ GW := gw_at1 100 (by decide +kernel) (by decide +kernel)
theorem wf_X2_27 : Cond.fieldLink RX2 27 "AlmanacOffice$Fairs" "count" "I" ∈ GW := gw_at1 101 (by decide +kernel) (by decide +kernel)
theorem wf_X8_77 : Cond.fieldLink RX8 77 "AlmanacOffice$Fairs" "count" "I" ∈ GW := gw_at1 102 (by decide +kernel) (by decide +kernel)
theorem wf_X5_133 : Cond.fieldLink RX5 133 "AlmanacOffice$Fairs" "count" "I" ∈ GW := gw_at1 103 (by decide +kernel) (by decide +kernel)
theorem wf_X10_127 : Cond.fieldLink RX10 127 "AlmanacOffice$Fairs" "count" "I" ∈ GW := gw_at1 104 (by decide +kernel) (by decide +kernel)
theorem wk_X8_25 : Cond.classLink RX8 25 RX7 ∈ GW := gw_at1 118 (by decide +kernel) (by decide +kernel)
theorem wt_X7 : Cond.instantiable RX7 3 ∈ GW := gw_at1 119 (by decide +kernel) (by decide +kernel)
theorem wn_X7_init : Cond.instanceMethod yX7_init ∈ GW := gw_at1 121 (by decide +kernel) (by decide +kernel)
theorem wc_X7_init : Cond.code yX7_init cX7_init 1 none ∈ GW := gw_at1 122 (by decide +kernel) (by decide +kernel)
theorem wl_X7_3 : Cond.methodLink RX7 3 objectInit ∈ GW := gw_at1 123 (by decide +kernel) (by decide +kernel)
theorem wf_X7_9 : Cond.fieldLink RX7 9 "AlmanacOffice$Sky" "odds" "[I" ∈ GW := gw_at1 124 (by decide +kernel) (by decide +kernel)
theorem wf_X5_74 : Cond.fieldLink RX5 74 "AlmanacOffice$Sky" "odds" "[I" ∈ GW := gw_at1 125 (by decide +kernel) (by decide +kernel)
theorem wf_X10_175 : Cond.fieldLink RX10 175 "AlmanacOffice$Sky" "odds" "[I" ∈ GW := gw_at1 126 (by decide +kernel) (by decide +kernel)
theorem wf_X7_15 : Cond.fieldLink RX7 15 "AlmanacOffice$Sky" "drawn" "[I" ∈ GW := gw_at1 127 (by decide +kernel) (by decide +kernel)
theorem wf_X8_80 : Cond.fieldLink RX8 80 "AlmanacOffice$Sky" "drawn" "[I" ∈ GW := gw_at1 128 (by decide +kernel) (by decide +kernel)
theorem wf_X10_182 : Cond.fieldLink RX10 182 "AlmanacOffice$Sky" "drawn" "[I" ∈ GW := gw_at1 129 (by decide +kernel) (by decide +kernel)
theorem wf_X7_18 : Cond.fieldLink RX7 18 "AlmanacOffice$Sky" "seed" "I" ∈ GW := gw_at1 130 (by decide +kernel) (by decide +kernel)
theorem wf_X5_69 : Cond.fieldLink RX5 69 "AlmanacOffice$Sky" "seed" "I" ∈ GW := gw_at1 131 (by decide +kernel) (by decide +kernel)
theorem wf_X10_115 : Cond.fieldLink RX10 115 "AlmanacOffice$Sky" "seed" "I" ∈ GW := gw_at1 132 (by decide +kernel) (by decide +kernel)
theorem wk_X8_32 : Cond.classLink RX8 32 RX0 ∈ GW := gw_at1 140 (by decide +kernel) (by decide +kernel)
theorem wt_X0 : Cond.instantiable RX0 6 ∈ GW := gw_at1 141 (by decide +kernel) (by decide +kernel)
theorem wn_X0_init : Cond.instanceMethod yX0_init ∈ GW := gw_at1 143 (by decide +kernel) (by decide +kernel)
theorem wc_X0_init : Cond.code yX0_init cX0_init 1 none ∈ GW := gw_at1 144 (by decide +kernel) (by decide +kernel)
theorem wl_X0_3 : Cond.methodLink RX0 3 objectInit ∈ GW := gw_at1 145 (by decide +kernel) (by decide +kernel)
theorem wf_X0_9 : Cond.fieldLink RX0 9 "AlmanacOffice$Book" "villages" "[I" ∈ GW := gw_at1 146 (by decide +kernel) (by decide +kernel)
theorem wf_X8_118 : Cond.fieldLink RX8 118 "AlmanacOffice$Book" "villages" "[I" ∈ GW := gw_at1 147 (by decide +kernel) (by decide +kernel)
theorem wf_X0_15 : Cond.fieldLink RX0 15 "AlmanacOffice$Book" "days" "[I" ∈ GW := gw_at1 148 (by decide +kernel) (by decide +kernel)
theorem wf_X8_155 : Cond.fieldLink RX8 155 "AlmanacOffice$Book" "days" "[I" ∈ GW := gw_at1 149 (by decide +kernel) (by decide +kernel)
theorem wf_X0_18 : Cond.fieldLink RX0 18 "AlmanacOffice$Book" "weathers" "[I" ∈ GW := gw_at1 150 (by decide +kernel) (by decide +kernel)
theorem wf_X8_172 : Cond.fieldLink RX8 172 "AlmanacOffice$Book" "weathers" "[I" ∈ GW := gw_at1 151 (by decide +kernel) (by decide +kernel)
theorem wf_X10_189 : Cond.fieldLink RX10 189 "AlmanacOffice$Book" "weathers" "[I" ∈ GW := gw_at1 152 (by decide +kernel) (by decide +kernel)
theorem wf_X0_21 : Cond.fieldLink RX0 21 "AlmanacOffice$Book" "sold" "[I" ∈ GW := gw_at1 153 (by decide +kernel) (by decide +kernel)
theorem wf_X8_124 : Cond.fieldLink RX8 124 "AlmanacOffice$Book" "sold" "[I" ∈ GW := gw_at1 154 (by decide +kernel) (by decide +kernel)
theorem wf_X10_195 : Cond.fieldLink RX10 195 "AlmanacOffice$Book" "sold" "[I" ∈ GW := gw_at1 155 (by decide +kernel) (by decide +kernel)
theorem wf_X0_24 : Cond.fieldLink RX0 24 "AlmanacOffice$Book" "paid" "[I" ∈ GW := gw_at1 156 (by decide +kernel) (by decide +kernel)
theorem wf_X8_169 : Cond.fieldLink RX8 169 "AlmanacOffice$Book" "paid" "[I" ∈ GW := gw_at1 157 (by decide +kernel) (by decide +kernel)
theorem wf_X10_198 : Cond.fieldLink RX10 198 "AlmanacOffice$Book" "paid" "[I" ∈ GW := gw_at1 158 (by decide +kernel) (by decide +kernel)
theorem wf_X0_27 : Cond.fieldLink RX0 27 "AlmanacOffice$Book" "count" "I" ∈ GW := gw_at1 159 (by decide +kernel) (by decide +kernel)
theorem wf_X8_78 : Cond.fieldLink RX8 78 "AlmanacOffice$Book" "count" "I" ∈ GW := gw_at1 160 (by decide +kernel) (by decide +kernel)
theorem wf_X10_185 : Cond.fieldLink RX10 185 "AlmanacOffice$Book" "count" "I" ∈ GW := gw_at1 161 (by decide +kernel) (by decide +kernel)
theorem wk_X8_39 : Cond.classLink RX8 39 RX4 ∈ GW := gw_at1 175 (by decide +kernel) (by decide +kernel)
theorem wt_X4 : Cond.instantiable RX4 2 ∈ GW := gw_at1 176 (by decide +kernel) (by decide +kernel)
theorem wn_X4_init : Cond.instanceMethod yX4_init ∈ GW := gw_at1 178 (by decide +kernel) (by decide +kernel)
theorem wc_X4_init : Cond.code yX4_init cX4_init 1 none ∈ GW := gw_at1 179 (by decide +kernel) (by decide +kernel)
theorem wl_X4_1 : Cond.methodLink RX4 1 objectInit ∈ GW := gw_at1 180 (by decide +kernel) (by decide +kernel)
theorem wf_X4_9 : Cond.fieldLink RX4 9 "AlmanacOffice$Memory" "labels" "[I" ∈ GW := gw_at1 181 (by decide +kernel) (by decide +kernel)
theorem wf_X10_246 : Cond.fieldLink RX10 246 "AlmanacOffice$Memory" "labels" "[I" ∈ GW := gw_at1 182 (by decide +kernel) (by decide +kernel)
theorem wf_X4_13 : Cond.fieldLink RX4 13 "AlmanacOffice$Memory" "count" "I" ∈ GW := gw_at1 183 (by decide +kernel) (by decide +kernel)
theorem wf_X8_79 : Cond.fieldLink RX8 79 "AlmanacOffice$Memory" "count" "I" ∈ GW := gw_at1 184 (by decide +kernel) (by decide +kernel)
theorem wf_X10_240 : Cond.fieldLink RX10 240 "AlmanacOffice$Memory" "count" "I" ∈ GW := gw_at1 185 (by decide +kernel) (by decide +kernel)
theorem wf_X8_12 : Cond.fieldLink RX8 12 "AlmanacOffice$State" "villages" "LAlmanacOffice$Villages;" ∈ GW := gw_at1 191 (by decide +kernel) (by decide +kernel)
theorem wf_X10_99 : Cond.fieldLink RX10 99 "AlmanacOffice$State" "villages" "LAlmanacOffice$Villages;" ∈ GW := gw_at1 192 (by decide +kernel) (by decide +kernel)
theorem wf_X5_110 : Cond.fieldLink RX5 110 "AlmanacOffice$State" "villages" "LAlmanacOffice$Villages;" ∈ GW := gw_at1 193 (by decide +kernel) (by decide +kernel)
theorem wf_X8_21 : Cond.fieldLink RX8 21 "AlmanacOffice$State" "fairs" "LAlmanacOffice$Fairs;" ∈ GW := gw_at1 194 (by decide +kernel) (by decide +kernel)
theorem wf_X5_129 : Cond.fieldLink RX5 129 "AlmanacOffice$State" "fairs" "LAlmanacOffice$Fairs;" ∈ GW := gw_at1 195 (by decide +kernel) (by decide +kernel)
theorem wf_X10_123 : Cond.fieldLink RX10 123 "AlmanacOffice$State" "fairs" "LAlmanacOffice$Fairs;" ∈ GW := gw_at1 196 (by decide +kernel) (by decide +kernel)
theorem wf_X8_28 : Cond.fieldLink RX8 28 "AlmanacOffice$State" "sky" "LAlmanacOffice$Sky;" ∈ GW := gw_at1 197 (by decide +kernel) (by decide +kernel)
theorem wf_X5_60 : Cond.fieldLink RX5 60 "AlmanacOffice$State" "sky" "LAlmanacOffice$Sky;" ∈ GW := gw_at1 198 (by decide +kernel) (by decide +kernel)
theorem wf_X10_111 : Cond.fieldLink RX10 111 "AlmanacOffice$State" "sky" "LAlmanacOffice$Sky;" ∈ GW := gw_at1 199 (by decide +kernel) (by decide +kernel)
theorem wf_X8_35 : Cond.fieldLink RX8 35 "AlmanacOffice$State" "book" "LAlmanacOffice$Book;" ∈ GW := gw_at1 200 (by decide +kernel) (by decide +kernel)
theorem wf_X5_153 : Cond.fieldLink RX5 153 "AlmanacOffice$State" "book" "LAlmanacOffice$Book;" ∈ GW := gw_at1 201 (by decide +kernel) (by decide +kernel)
theorem wf_X10_149 : Cond.fieldLink RX10 149 "AlmanacOffice$State" "book" "LAlmanacOffice$Book;" ∈ GW := gw_at1 202 (by decide +kernel) (by decide +kernel)
theorem wf_X8_42 : Cond.fieldLink RX8 42 "AlmanacOffice$State" "memory" "LAlmanacOffice$Memory;" ∈ GW := gw_at1 203 (by decide +kernel) (by decide +kernel)
theorem wf_X10_236 : Cond.fieldLink RX10 236 "AlmanacOffice$State" "memory" "LAlmanacOffice$Memory;" ∈ GW := gw_at1 204 (by decide +kernel) (by decide +kernel)
theorem wf_X8_46 : Cond.fieldLink RX8 46 "AlmanacOffice$State" "day" "I" ∈ GW := gw_at1 205 (by decide +kernel) (by decide +kernel)
theorem wf_X10_108 : Cond.fieldLink RX10 108 "AlmanacOffice$State" "day" "I" ∈ GW := gw_at1 206 (by decide +kernel) (by decide +kernel)
theorem wf_X8_50 : Cond.fieldLink RX8 50 "AlmanacOffice$State" "coins" "I" ∈ GW := gw_at1 207 (by decide +kernel) (by decide +kernel)
theorem wf_X10_120 : Cond.fieldLink RX10 120 "AlmanacOffice$State" "coins" "I" ∈ GW := gw_at1 208 (by decide +kernel) (by decide +kernel)
theorem wf_X8_53 : Cond.fieldLink RX8 53 "AlmanacOffice$State" "hits" "I" ∈ GW := gw_at1 209 (by decide +kernel) (by decide +kernel)
theorem wf_X10_249 : Cond.fieldLink RX10 249 "AlmanacOffice$State" "hits" "I" ∈ GW := gw_at1 210 (by decide +kernel) (by decide +kernel)
theorem wf_X8_56 : Cond.fieldLink RX8 56 "AlmanacOffice$State" "regrets" "I" ∈ GW := gw_at1 211 (by decide +kernel) (by decide +kernel)
theorem wf_X10_252 : Cond.fieldLink RX10 252 "AlmanacOffice$State" "regrets" "I" ∈ GW := gw_at1 212 (by decide +kernel) (by decide +kernel)
theorem wf_X8_59 : Cond.fieldLink RX8 59 "AlmanacOffice$State" "retractions" "I" ∈ GW := gw_at1 213 (by decide +kernel) (by decide +kernel)
theorem wf_X10_255 : Cond.fieldLink RX10 255 "AlmanacOffice$State" "retractions" "I" ∈ GW := gw_at1 214 (by decide +kernel) (by decide +kernel)
theorem wf_X8_62 : Cond.fieldLink RX8 62 "AlmanacOffice$State" "copiesSold" "I" ∈ GW := gw_at1 215 (by decide +kernel) (by decide +kernel)
theorem wf_X10_267 : Cond.fieldLink RX10 267 "AlmanacOffice$State" "copiesSold" "I" ∈ GW := gw_at1 216 (by decide +kernel) (by decide +kernel)
theorem wf_X8_65 : Cond.fieldLink RX8 65 "AlmanacOffice$State" "copiesGone" "I" ∈ GW := gw_at1 217 (by decide +kernel) (by decide +kernel)
theorem wf_X10_273 : Cond.fieldLink RX10 273 "AlmanacOffice$State" "copiesGone" "I" ∈ GW := gw_at1 218 (by decide +kernel) (by decide +kernel)
theorem wf_X8_68 : Cond.fieldLink RX8 68 "AlmanacOffice$State" "coinsEarned" "I" ∈ GW := gw_at1 219 (by decide +kernel) (by decide +kernel)
theorem wf_X10_276 : Cond.fieldLink RX10 276 "AlmanacOffice$State" "coinsEarned" "I" ∈ GW := gw_at1 220 (by decide +kernel) (by decide +kernel)
theorem wf_X8_71 : Cond.fieldLink RX8 71 "AlmanacOffice$State" "coinsPaidBack" "I" ∈ GW := gw_at1 221 (by decide +kernel) (by decide +kernel)
theorem wf_X10_279 : Cond.fieldLink RX10 279 "AlmanacOffice$State" "coinsPaidBack" "I" ∈ GW := gw_at1 222 (by decide +kernel) (by decide +kernel)
theorem wk_X10_29 : Cond.classLink RX10 29 RX3 ∈ GW := gw_at2 12 (by decide +kernel) (by decide +kernel)
theorem wt_X3 : Cond.instantiable RX3 3 ∈ GW := gw_at2 13 (by decide +kernel) (by decide +kernel)
theorem wl_X10_31 : Cond.methodLink RX10 31 yX3_init ∈ GW := gw_at2 14 (by decide +kernel) (by decide +kernel)
theorem wn_X3_init : Cond.instanceMethod yX3_init ∈ GW := gw_at2 15 (by decide +kernel) (by decide +kernel)
theorem wc_X3_init : Cond.code yX3_init cX3_init 2 none ∈ GW := gw_at2 16 (by decide +kernel) (by decide +kernel)
theorem wl_X3_1 : Cond.methodLink RX3 1 objectInit ∈ GW := gw_at2 17 (by decide +kernel) (by decide +kernel)
theorem wk_X3_9 : Cond.classLink RX3 9 RX8 ∈ GW := gw_at2 18 (by decide +kernel) (by decide +kernel)
theorem wf_X3_11 : Cond.fieldLink RX3 11 "AlmanacOffice$History" "past" "[LAlmanacOffice$State;" ∈ GW := gw_at2 21 (by decide +kernel) (by decide +kernel)
theorem wf_X3_15 : Cond.fieldLink RX3 15 "AlmanacOffice$History" "next" "I" ∈ GW := gw_at2 22 (by decide +kernel) (by decide +kernel)
theorem wf_X3_19 : Cond.fieldLink RX3 19 "AlmanacOffice$History" "count" "I" ∈ GW := gw_at2 23 (by decide +kernel) (by decide +kernel)
theorem wl_X10_53 : Cond.methodLink RX10 53 yX1_putText ∈ GW := gw_at2 32 (by decide +kernel) (by decide +kernel)
theorem wn_X1_putText : Cond.instanceMethod yX1_putText ∈ GW := gw_at2 33 (by decide +kernel) (by decide +kernel)
theorem we_X1_putText : Cond.selects RX1 yX1_putText yX1_putText ∈ GW := gw_at2 34 (by decide +kernel) (by decide +kernel)
theorem wc_X1_putText : Cond.code yX1_putText cX1_putText 3 none ∈ GW := gw_at2 35 (by decide +kernel) (by decide +kernel)
theorem wl_X1_23 : Cond.methodLink RX1 23 yJ0_length_8abf5 ∈ GW := gw_at2 36 (by decide +kernel) (by decide +kernel)
theorem wn_J0_length_8abf5 : Cond.instanceMethod yJ0_length_8abf5 ∈ GW := gw_at2 37 (by decide +kernel) (by decide +kernel)
theorem we_J0_length_8abf5 : Cond.selects RJ0 yJ0_length_8abf5 yJ0_length_8abf5 ∈ GW := gw_at2 38 (by decide +kernel) (by decide +kernel)
theorem wc_J0_length_8abf5 : Cond.code yJ0_length_8abf5 cJ0_length_8abf5 1 (some FieldType.int) ∈ GW := gw_at2 39 (by decide +kernel) (by decide +kernel)
theorem wl_J0_335 : Cond.methodLink RJ0 335 yJ0_coder_7d493 ∈ GW := gw_at2 40 (by decide +kernel) (by decide +kernel)
theorem wn_J0_coder_7d493 : Cond.instanceMethod yJ0_coder_7d493 ∈ GW := gw_at2 41 (by decide +kernel) (by decide +kernel)
theorem we_J0_coder_7d493 : Cond.selects RJ0 yJ0_coder_7d493 yJ0_coder_7d493 ∈ GW := gw_at2 42 (by decide +kernel) (by decide +kernel)
theorem wc_J0_coder_7d493 : Cond.code yJ0_coder_7d493 cJ0_coder_7d493 1 (some FieldType.byte) ∈ GW := gw_at2 43 (by decide +kernel) (by decide +kernel)
theorem wf_J0_38 : Cond.fieldLink RJ0 38 "java/lang/String" "COMPACT_STRINGS" "Z" ∈ GW := gw_at2 44 (by decide +kernel) (by decide +kernel)
theorem wl_X1_28 : Cond.methodLink RX1 28 yJ0_charAt_5068e ∈ GW := gw_at2 46 (by decide +kernel) (by decide +kernel)
theorem wn_J0_charAt_5068e : Cond.instanceMethod yJ0_charAt_5068e ∈ GW := gw_at2 47 (by decide +kernel) (by decide +kernel)
theorem we_J0_charAt_5068e : Cond.selects RJ0 yJ0_charAt_5068e yJ0_charAt_5068e ∈ GW := gw_at2 48 (by decide +kernel) (by decide +kernel)
theorem wc_J0_charAt_5068e : Cond.code yJ0_charAt_5068e cJ0_charAt_5068e 2 (some FieldType.char) ∈ GW := gw_at2 49 (by decide +kernel) (by decide +kernel)
theorem wl_J0_492 : Cond.methodLink RJ0 492 yJ0_isLatin1_aae02 ∈ GW := gw_at2 50 (by decide +kernel) (by decide +kernel)
theorem wn_J0_isLatin1_aae02 : Cond.instanceMethod yJ0_isLatin1_aae02 ∈ GW := gw_at2 51 (by decide +kernel) (by decide +kernel)
theorem we_J0_isLatin1_aae02 : Cond.selects RJ0 yJ0_isLatin1_aae02 yJ0_isLatin1_aae02 ∈ GW := gw_at2 52 (by decide +kernel) (by decide +kernel)
theorem wc_J0_isLatin1_aae02 : Cond.code yJ0_isLatin1_aae02 cJ0_isLatin1_aae02 1 (some FieldType.boolean) ∈ GW := gw_at2 53 (by decide +kernel) (by decide +kernel)
theorem wl_J0_495 : Cond.methodLink RJ0 495 yJ1_charAt_3b067 ∈ GW := gw_at2 54 (by decide +kernel) (by decide +kernel)
theorem wst_J1_charAt_3b067 : Cond.static yJ1_charAt_3b067 ∈ GW := gw_at2 55 (by decide +kernel) (by decide +kernel)
theorem wc_J1_charAt_3b067 : Cond.code yJ1_charAt_3b067 cJ1_charAt_3b067 2 (some FieldType.char) ∈ GW := gw_at2 56 (by decide +kernel) (by decide +kernel)
theorem wl_J1_9 : Cond.methodLink RJ1 9 yJ0_checkIndex_df160 ∈ GW := gw_at2 57 (by decide +kernel) (by decide +kernel)
theorem wst_J0_checkIndex_df160 : Cond.static yJ0_checkIndex_df160 ∈ GW := gw_at2 58 (by decide +kernel) (by decide +kernel)
theorem wc_J0_checkIndex_df160 : Cond.code yJ0_checkIndex_df160 cJ0_checkIndex_df160 2 none ∈ GW := gw_at2 59 (by decide +kernel) (by decide +kernel)
theorem wf_J0_1053 : Cond.fieldLink RJ0 1053 "jdk/internal/util/Preconditions" "SIOOBE_FORMATTER" "Ljava/util/function/BiFunction;" ∈ GW := gw_at2 60 (by decide +kernel) (by decide +kernel)
theorem wl_J0_1059 : Cond.methodLink RJ0 1059 yJ3_checkIndex_8e157 ∈ GW := gw_at2 62 (by decide +kernel) (by decide +kernel)
theorem wst_J3_checkIndex_8e157 : Cond.static yJ3_checkIndex_8e157 ∈ GW := gw_at2 63 (by decide +kernel) (by decide +kernel)
theorem wc_J3_checkIndex_8e157 : Cond.code yJ3_checkIndex_8e157 cJ3_checkIndex_8e157 3 (some FieldType.int) ∈ GW := gw_at2 64 (by decide +kernel) (by decide +kernel)
theorem wl_J0_498 : Cond.methodLink RJ0 498 yJ2_charAt_3b067 ∈ GW := gw_at2 65 (by decide +kernel) (by decide +kernel)
theorem wst_J2_charAt_3b067 : Cond.static yJ2_charAt_3b067 ∈ GW := gw_at2 66 (by decide +kernel) (by decide +kernel)
theorem wc_J2_charAt_3b067 : Cond.code yJ2_charAt_3b067 cJ2_charAt_3b067 2 (some FieldType.char) ∈ GW := gw_at2 67 (by decide +kernel) (by decide +kernel)
theorem wl_J2_67 : Cond.methodLink RJ2 67 yJ2_checkIndex_2214a ∈ GW := gw_at2 68 (by decide +kernel) (by decide +kernel)
theorem wst_J2_checkIndex_2214a : Cond.static yJ2_checkIndex_2214a ∈ GW := gw_at2 69 (by decide +kernel) (by decide +kernel)
theorem wc_J2_checkIndex_2214a : Cond.code yJ2_checkIndex_2214a cJ2_checkIndex_2214a 2 none ∈ GW := gw_at2 70 (by decide +kernel) (by decide +kernel)
theorem wl_J2_48 : Cond.methodLink RJ2 48 yJ2_length_9d52b ∈ GW := gw_at2 71 (by decide +kernel) (by decide +kernel)
theorem wst_J2_length_9d52b : Cond.static yJ2_length_9d52b ∈ GW := gw_at2 72 (by decide +kernel) (by decide +kernel)
theorem wc_J2_length_9d52b : Cond.code yJ2_length_9d52b cJ2_length_9d52b 1 (some FieldType.int) ∈ GW := gw_at2 73 (by decide +kernel) (by decide +kernel)
theorem wl_J2_414 : Cond.methodLink RJ2 414 yJ0_checkIndex_df160 ∈ GW := gw_at2 74 (by decide +kernel) (by decide +kernel)
theorem wl_J2_71 : Cond.methodLink RJ2 71 yJ2_getChar_3b067 ∈ GW := gw_at2 75 (by decide +kernel) (by decide +kernel)
theorem wst_J2_getChar_3b067 : Cond.static yJ2_getChar_3b067 ∈ GW := gw_at2 76 (by decide +kernel) (by decide +kernel)
theorem wc_J2_getChar_3b067 : Cond.code yJ2_getChar_3b067 cJ2_getChar_3b067 2 (some FieldType.char) ∈ GW := gw_at2 77 (by decide +kernel) (by decide +kernel)
theorem wf_J2_44 : Cond.fieldLink RJ2 44 "java/lang/StringUTF16" "$assertionsDisabled" "Z" ∈ GW := gw_at2 78 (by decide +kernel) (by decide +kernel)
theorem wf_J2_59 : Cond.fieldLink RJ2 59 "java/lang/StringUTF16" "HI_BYTE_SHIFT" "I" ∈ GW := gw_at2 80 (by decide +kernel) (by decide +kernel)
theorem wf_J2_63 : Cond.fieldLink RJ2 63 "java/lang/StringUTF16" "LO_BYTE_SHIFT" "I" ∈ GW := gw_at2 82 (by decide +kernel) (by decide +kernel)
theorem wl_X1_19 : Cond.methodLink RX1 19 yX1_put ∈ GW := gw_at2 84 (by decide +kernel) (by decide +kernel)
theorem wn_X1_put : Cond.instanceMethod yX1_put ∈ GW := gw_at2 85 (by decide +kernel) (by decide +kernel)
theorem we_X1_put : Cond.selects RX1 yX1_put yX1_put ∈ GW := gw_at2 86 (by decide +kernel) (by decide +kernel)
theorem wc_X1_put : Cond.code yX1_put cX1_put 2 none ∈ GW := gw_at2 87 (by decide +kernel) (by decide +kernel)
theorem wk_X10_57 : Cond.classLink RX10 57 RX5 ∈ GW := gw_at2 88 (by decide +kernel) (by decide +kernel)
theorem wt_X5 : Cond.instantiable RX5 4 ∈ GW := gw_at2 89 (by decide +kernel) (by decide +kernel)
theorem wl_X10_59 : Cond.methodLink RX10 59 yX5_init ∈ GW := gw_at2 90 (by decide +kernel) (by decide +kernel)
theorem wn_X5_init : Cond.instanceMethod yX5_init ∈ GW := gw_at2 91 (by decide +kernel) (by decide +kernel)
theorem wc_X5_init : Cond.code yX5_init cX5_init 3 none ∈ GW := gw_at2 92 (by decide +kernel) (by decide +kernel)
theorem wl_X5_3 : Cond.methodLink RX5 3 objectInit ∈ GW := gw_at2 93 (by decide +kernel) (by decide +kernel)
theorem wk_X5_18 : Cond.classLink RX5 18 RX6 ∈ GW := gw_at2 94 (by decide +kernel) (by decide +kernel)
theorem wt_X6 : Cond.instantiable RX6 5 ∈ GW := gw_at2 95 (by decide +kernel) (by decide +kernel)
theorem wl_X5_20 : Cond.methodLink RX5 20 yX6_init ∈ GW := gw_at2 96 (by decide +kernel) (by decide +kernel)
theorem wn_X6_init : Cond.instanceMethod yX6_init ∈ GW := gw_at2 97 (by decide +kernel) (by decide +kernel)
theorem wc_X6_init : Cond.code yX6_init cX6_init 2 none ∈ GW := gw_at2 98 (by decide +kernel) (by decide +kernel)
theorem wl_X6_3 : Cond.methodLink RX6 3 objectInit ∈ GW := gw_at2 99 (by decide +kernel) (by decide +kernel)
theorem wf_X6_24 : Cond.fieldLink RX6 24 "AlmanacOffice$Scanner" "text" "LAlmanacOffice$Bytes;" ∈ GW := gw_at2 100 (by decide +kernel) (by decide +kernel)
theorem wf_X6_11 : Cond.fieldLink RX6 11 "AlmanacOffice$Scanner" "kind" "I" ∈ GW := gw_at2 101 (by decide +kernel) (by decide +kernel)
theorem wf_X5_40 : Cond.fieldLink RX5 40 "AlmanacOffice$Scanner" "kind" "I" ∈ GW := gw_at2 102 (by decide +kernel) (by decide +kernel)
theorem wf_X6_15 : Cond.fieldLink RX6 15 "AlmanacOffice$Scanner" "start" "I" ∈ GW := gw_at2 103 (by decide +kernel) (by decide +kernel)
theorem wf_X5_187 : Cond.fieldLink RX5 187 "AlmanacOffice$Scanner" "start" "I" ∈ GW := gw_at2 104 (by decide +kernel) (by decide +kernel)
theorem wf_X6_18 : Cond.fieldLink RX6 18 "AlmanacOffice$Scanner" "end" "I" ∈ GW := gw_at2 105 (by decide +kernel) (by decide +kernel)
theorem wf_X6_21 : Cond.fieldLink RX6 21 "AlmanacOffice$Scanner" "number" "I" ∈ GW := gw_at2 106 (by decide +kernel) (by decide +kernel)
theorem wf_X5_66 : Cond.fieldLink RX5 66 "AlmanacOffice$Scanner" "number" "I" ∈ GW := gw_at2 107 (by decide +kernel) (by decide +kernel)
theorem wa_boolean : Cond.arrayClass (FieldType.boolean) ∈ GW := gw_at2 119 (by decide +kernel) (by decide +kernel)
theorem wf_X5_23 : Cond.fieldLink RX5 23 "AlmanacOffice$Parser" "scanner" "LAlmanacOffice$Scanner;" ∈ GW := gw_at2 120 (by decide +kernel) (by decide +kernel)
theorem wf_X5_27 : Cond.fieldLink RX5 27 "AlmanacOffice$Parser" "state" "LAlmanacOffice$State;" ∈ GW := gw_at2 121 (by decide +kernel) (by decide +kernel)
theorem wf_X5_9 : Cond.fieldLink RX5 9 "AlmanacOffice$Parser" "errorCode" "I" ∈ GW := gw_at2 122 (by decide +kernel) (by decide +kernel)
theorem wf_X10_91 : Cond.fieldLink RX10 91 "AlmanacOffice$Parser" "errorCode" "I" ∈ GW := gw_at2 123 (by decide +kernel) (by decide +kernel)
theorem wf_X5_15 : Cond.fieldLink RX5 15 "AlmanacOffice$Parser" "errorPosition" "I" ∈ GW := gw_at2 124 (by decide +kernel) (by decide +kernel)
theorem wf_X10_92 : Cond.fieldLink RX10 92 "AlmanacOffice$Parser" "errorPosition" "I" ∈ GW := gw_at2 125 (by decide +kernel) (by decide +kernel)
theorem wl_X10_62 : Cond.methodLink RX10 62 yX5_readText ∈ GW := gw_at2 135 (by decide +kernel) (by decide +kernel)
theorem wn_X5_readText : Cond.instanceMethod yX5_readText ∈ GW := gw_at2 136 (by decide +kernel) (by decide +kernel)
theorem we_X5_readText : Cond.selects RX5 yX5_readText yX5_readText ∈ GW := gw_at2 137 (by decide +kernel) (by decide +kernel)
theorem wc_X5_readText : Cond.code yX5_readText cX5_readText 2 (some FieldType.boolean) ∈ GW := gw_at2 138 (by decide +kernel) (by decide +kernel)
theorem wl_X5_31 : Cond.methodLink RX5 31 yX5_readAlmanac ∈ GW := gw_at2 139 (by decide +kernel) (by decide +kernel)
theorem wn_X5_readAlmanac : Cond.instanceMethod yX5_readAlmanac ∈ GW := gw_at2 141 (by decide +kernel) (by decide +kernel)
theorem wc_X5_readAlmanac : Cond.code yX5_readAlmanac cX5_readAlmanac 2 (some FieldType.boolean) ∈ GW := gw_at2 142 (by decide +kernel) (by decide +kernel)
theorem wl_X5_35 : Cond.methodLink RX5 35 yX6_next ∈ GW := gw_at2 143 (by decide +kernel) (by decide +kernel)
theorem wn_X6_next : Cond.instanceMethod yX6_next ∈ GW := gw_at2 144 (by decide +kernel) (by decide +kernel)
theorem we_X6_next : Cond.selects RX6 yX6_next yX6_next ∈ GW := gw_at2 145 (by decide +kernel) (by decide +kernel)
theorem wc_X6_next : Cond.code yX6_next cX6_next 2 none ∈ GW := gw_at2 146 (by decide +kernel) (by decide +kernel)
theorem wl_X6_33 : Cond.methodLink RX6 33 yX1_at ∈ GW := gw_at2 147 (by decide +kernel) (by decide +kernel)
theorem wn_X1_at : Cond.instanceMethod yX1_at ∈ GW := gw_at2 148 (by decide +kernel) (by decide +kernel)
theorem we_X1_at : Cond.selects RX1 yX1_at yX1_at ∈ GW := gw_at2 149 (by decide +kernel) (by decide +kernel)
theorem wc_X1_at : Cond.code yX1_at cX1_at 2 (some FieldType.int) ∈ GW := gw_at2 150 (by decide +kernel) (by decide +kernel)
theorem wl_X6_37 : Cond.methodLink RX6 37 yX6_isBlank ∈ GW := gw_at2 151 (by decide +kernel) (by decide +kernel)
theorem wn_X6_isBlank : Cond.instanceMethod yX6_isBlank ∈ GW := gw_at2 153 (by decide +kernel) (by decide +kernel)
theorem wc_X6_isBlank : Cond.code yX6_isBlank cX6_isBlank 2 (some FieldType.boolean) ∈ GW := gw_at2 154 (by decide +kernel) (by decide +kernel)
theorem wst_X10_isLetter : Cond.static yX10_isLetter ∈ GW := gw_at2 156 (by decide +kernel) (by decide +kernel)
theorem wc_X10_isLetter : Cond.code yX10_isLetter cX10_isLetter 1 (some FieldType.boolean) ∈ GW := gw_at2 157 (by decide +kernel) (by decide +kernel)
theorem wst_X10_isDigit : Cond.static yX10_isDigit ∈ GW := gw_at2 159 (by decide +kernel) (by decide +kernel)
theorem wc_X10_isDigit : Cond.code yX10_isDigit cX10_isDigit 1 (some FieldType.boolean) ∈ GW := gw_at2 160 (by decide +kernel) (by decide +kernel)
theorem wl_X6_47 : Cond.methodLink RX6 47 yX6_readDigits ∈ GW := gw_at2 161 (by decide +kernel) (by decide +kernel)
theorem wn_X6_readDigits : Cond.instanceMethod yX6_readDigits ∈ GW := gw_at2 163 (by decide +kernel) (by decide +kernel)
theorem wc_X6_readDigits : Cond.code yX6_readDigits cX6_readDigits 1 none ∈ GW := gw_at2 164 (by decide +kernel) (by decide +kernel)
theorem wx_X6_50 : Cond.constant RX6 50 (1000000 : Int32) ∈ GW := gw_at2 165 (by decide +kernel) (by decide +kernel)
theorem wl_X6_51 : Cond.methodLink RX6 51 Lib.Math.min.name ∈ GW := gw_at2 166 (by decide +kernel) (by decide +kernel)
theorem wst_Lib_Math_min_name : Cond.static Lib.Math.min.name ∈ GW := gw_at2 167 (by decide +kernel) (by decide +kernel)
theorem wc_Lib_Math_min_name : Cond.code Lib.Math.min.name cJ9_min_7cf53 2 (some FieldType.int) ∈ GW := gw_at2 168 (by decide +kernel) (by decide +kernel)
theorem wl_X5_48 : Cond.methodLink RX5 48 yX6_isWord ∈ GW := gw_at2 170 (by decide +kernel) (by decide +kernel)
theorem wn_X6_isWord : Cond.instanceMethod yX6_isWord ∈ GW := gw_at2 171 (by decide +kernel) (by decide +kernel)
theorem we_X6_isWord : Cond.selects RX6 yX6_isWord yX6_isWord ∈ GW := gw_at2 172 (by decide +kernel) (by decide +kernel)
theorem wc_X6_isWord : Cond.code yX6_isWord cX6_isWord 3 (some FieldType.boolean) ∈ GW := gw_at2 173 (by decide +kernel) (by decide +kernel)
theorem wl_X6_57 : Cond.methodLink RX6 57 yJ0_length_8abf5 ∈ GW := gw_at2 174 (by decide +kernel) (by decide +kernel)
theorem wl_X6_62 : Cond.methodLink RX6 62 yJ0_charAt_5068e ∈ GW := gw_at2 175 (by decide +kernel) (by decide +kernel)
theorem wl_X5_52 : Cond.methodLink RX5 52 yX5_fail ∈ GW := gw_at2 176 (by decide +kernel) (by decide +kernel)
theorem wn_X5_fail : Cond.instanceMethod yX5_fail ∈ GW := gw_at2 178 (by decide +kernel) (by decide +kernel)
theorem wc_X5_fail : Cond.code yX5_fail cX5_fail 2 (some FieldType.boolean) ∈ GW := gw_at2 179 (by decide +kernel) (by decide +kernel)
theorem wl_X5_56 : Cond.methodLink RX5 56 yX5_readNumber ∈ GW := gw_at2 180 (by decide +kernel) (by decide +kernel)
theorem wn_X5_readNumber : Cond.instanceMethod yX5_readNumber ∈ GW := gw_at2 182 (by decide +kernel) (by decide +kernel)
theorem wc_X5_readNumber : Cond.code yX5_readNumber cX5_readNumber 3 (some FieldType.boolean) ∈ GW := gw_at2 183 (by decide +kernel) (by decide +kernel)
theorem wst_X10_isBetween : Cond.static yX10_isBetween ∈ GW := gw_at2 185 (by decide +kernel) (by decide +kernel)
theorem wc_X10_isBetween : Cond.code yX10_isBetween cX10_isBetween 3 (some FieldType.boolean) ∈ GW := gw_at2 186 (by decide +kernel) (by decide +kernel)
theorem wl_X5_78 : Cond.methodLink RX5 78 yX7_sumOfOdds ∈ GW := gw_at2 187 (by decide +kernel) (by decide +kernel)
theorem wn_X7_sumOfOdds : Cond.instanceMethod yX7_sumOfOdds ∈ GW := gw_at2 188 (by decide +kernel) (by decide +kernel)
theorem we_X7_sumOfOdds : Cond.selects RX7 yX7_sumOfOdds yX7_sumOfOdds ∈ GW := gw_at2 189 (by decide +kernel) (by decide +kernel)
theorem wc_X7_sumOfOdds : Cond.code yX7_sumOfOdds cX7_sumOfOdds 1 (some FieldType.int) ∈ GW := gw_at2 190 (by decide +kernel) (by decide +kernel)
theorem wl_X5_82 : Cond.methodLink RX5 82 yX5_readSemicolon ∈ GW := gw_at2 191 (by decide +kernel) (by decide +kernel)
theorem wn_X5_readSemicolon : Cond.instanceMethod yX5_readSemicolon ∈ GW := gw_at2 193 (by decide +kernel) (by decide +kernel)
theorem wc_X5_readSemicolon : Cond.code yX5_readSemicolon cX5_readSemicolon 1 (some FieldType.boolean) ∈ GW := gw_at2 194 (by decide +kernel) (by decide +kernel)
theorem wl_X5_184 : Cond.methodLink RX5 184 yX6_isSemicolon ∈ GW := gw_at2 195 (by decide +kernel) (by decide +kernel)
theorem wn_X6_isSemicolon : Cond.instanceMethod yX6_isSemicolon ∈ GW := gw_at2 196 (by decide +kernel) (by decide +kernel)
theorem we_X6_isSemicolon : Cond.selects RX6 yX6_isSemicolon yX6_isSemicolon ∈ GW := gw_at2 197 (by decide +kernel) (by decide +kernel)
theorem wc_X6_isSemicolon : Cond.code yX6_isSemicolon cX6_isSemicolon 1 (some FieldType.boolean) ∈ GW := gw_at2 198 (by decide +kernel) (by decide +kernel)
theorem wl_X5_43 : Cond.methodLink RX5 43 yX5_readStatement ∈ GW := gw_at2 199 (by decide +kernel) (by decide +kernel)
theorem wn_X5_readStatement : Cond.instanceMethod yX5_readStatement ∈ GW := gw_at2 201 (by decide +kernel) (by decide +kernel)
theorem wc_X5_readStatement : Cond.code yX5_readStatement cX5_readStatement 1 (some FieldType.boolean) ∈ GW := gw_at2 202 (by decide +kernel) (by decide +kernel)
theorem wl_X5_87 : Cond.methodLink RX5 87 yX5_readVillage ∈ GW := gw_at2 204 (by decide +kernel) (by decide +kernel)
theorem wn_X5_readVillage : Cond.instanceMethod yX5_readVillage ∈ GW := gw_at2 206 (by decide +kernel) (by decide +kernel)
theorem wc_X5_readVillage : Cond.code yX5_readVillage cX5_readVillage 4 (some FieldType.boolean) ∈ GW := gw_at2 207 (by decide +kernel) (by decide +kernel)
theorem wl_X5_119 : Cond.methodLink RX5 119 yX5_readNewName ∈ GW := gw_at2 208 (by decide +kernel) (by decide +kernel)
theorem wn_X5_readNewName : Cond.instanceMethod yX5_readNewName ∈ GW := gw_at2 210 (by decide +kernel) (by decide +kernel)
theorem wc_X5_readNewName : Cond.code yX5_readNewName cX5_readNewName 3 (some FieldType.boolean) ∈ GW := gw_at2 211 (by decide +kernel) (by decide +kernel)
theorem wl_X5_122 : Cond.methodLink RX5 122 yX6_name ∈ GW := gw_at2 212 (by decide +kernel) (by decide +kernel)
theorem wn_X6_name : Cond.instanceMethod yX6_name ∈ GW := gw_at2 213 (by decide +kernel) (by decide +kernel)
theorem we_X6_name : Cond.selects RX6 yX6_name yX6_name ∈ GW := gw_at2 214 (by decide +kernel) (by decide +kernel)
theorem wc_X6_name : Cond.code yX6_name cX6_name 1 (some FieldType.int) ∈ GW := gw_at2 215 (by decide +kernel) (by decide +kernel)
theorem wl_X6_66 : Cond.methodLink RX6 66 yX1_nameBetween ∈ GW := gw_at2 216 (by decide +kernel) (by decide +kernel)
theorem wn_X1_nameBetween : Cond.instanceMethod yX1_nameBetween ∈ GW := gw_at2 217 (by decide +kernel) (by decide +kernel)
theorem we_X1_nameBetween : Cond.selects RX1 yX1_nameBetween yX1_nameBetween ∈ GW := gw_at2 218 (by decide +kernel) (by decide +kernel)
theorem wc_X1_nameBetween : Cond.code yX1_nameBetween cX1_nameBetween 6 (some FieldType.int) ∈ GW := gw_at2 219 (by decide +kernel) (by decide +kernel)
theorem wl_X1_33 : Cond.methodLink RX1 33 yX1_at ∈ GW := gw_at2 220 (by decide +kernel) (by decide +kernel)
theorem wl_X5_139 : Cond.methodLink RX5 139 yX9_numberOf ∈ GW := gw_at2 222 (by decide +kernel) (by decide +kernel)
theorem wn_X9_numberOf : Cond.instanceMethod yX9_numberOf ∈ GW := gw_at2 223 (by decide +kernel) (by decide +kernel)
theorem we_X9_numberOf : Cond.selects RX9 yX9_numberOf yX9_numberOf ∈ GW := gw_at2 224 (by decide +kernel) (by decide +kernel)
theorem wc_X9_numberOf : Cond.code yX9_numberOf cX9_numberOf 2 (some FieldType.int) ∈ GW := gw_at2 225 (by decide +kernel) (by decide +kernel)
theorem wst_X10_placeIn : Cond.static yX10_placeIn ∈ GW := gw_at2 227 (by decide +kernel) (by decide +kernel)
theorem wc_X10_placeIn : Cond.code yX10_placeIn cX10_placeIn 4 (some FieldType.int) ∈ GW := gw_at2 228 (by decide +kernel) (by decide +kernel)
theorem wl_X5_179 : Cond.methodLink RX5 179 yX2_numberOf ∈ GW := gw_at2 229 (by decide +kernel) (by decide +kernel)
theorem wn_X2_numberOf : Cond.instanceMethod yX2_numberOf ∈ GW := gw_at2 230 (by decide +kernel) (by decide +kernel)
theorem we_X2_numberOf : Cond.selects RX2 yX2_numberOf yX2_numberOf ∈ GW := gw_at2 231 (by decide +kernel) (by decide +kernel)
theorem wc_X2_numberOf : Cond.code yX2_numberOf cX2_numberOf 2 (some FieldType.int) ∈ GW := gw_at2 232 (by decide +kernel) (by decide +kernel)
theorem wl_X5_125 : Cond.methodLink RX5 125 yX9_add ∈ GW := gw_at2 234 (by decide +kernel) (by decide +kernel)
theorem wn_X9_add : Cond.instanceMethod yX9_add ∈ GW := gw_at2 235 (by decide +kernel) (by decide +kernel)
theorem we_X9_add : Cond.selects RX9 yX9_add yX9_add ∈ GW := gw_at2 236 (by decide +kernel) (by decide +kernel)
theorem wc_X9_add : Cond.code yX9_add cX9_add 4 none ∈ GW := gw_at2 237 (by decide +kernel) (by decide +kernel)
theorem wl_X5_92 : Cond.methodLink RX5 92 yX5_readFair ∈ GW := gw_at2 239 (by decide +kernel) (by decide +kernel)
theorem wn_X5_readFair : Cond.instanceMethod yX5_readFair ∈ GW := gw_at3 1 (by decide +kernel) (by decide +kernel)
theorem wc_X5_readFair : Cond.code yX5_readFair cX5_readFair 6 (some FieldType.boolean) ∈ GW := gw_at3 2 (by decide +kernel) (by decide +kernel)
theorem wl_X5_136 : Cond.methodLink RX5 136 yX5_readKnownVillage ∈ GW := gw_at3 3 (by decide +kernel) (by decide +kernel)
theorem wn_X5_readKnownVillage : Cond.instanceMethod yX5_readKnownVillage ∈ GW := gw_at3 5 (by decide +kernel) (by decide +kernel)
theorem wc_X5_readKnownVillage : Cond.code yX5_readKnownVillage cX5_readKnownVillage 1 (some FieldType.boolean) ∈ GW := gw_at3 6 (by decide +kernel) (by decide +kernel)
theorem wl_X5_143 : Cond.methodLink RX5 143 yX2_add ∈ GW := gw_at3 7 (by decide +kernel) (by decide +kernel)
theorem wn_X2_add : Cond.instanceMethod yX2_add ∈ GW := gw_at3 8 (by decide +kernel) (by decide +kernel)
theorem we_X2_add : Cond.selects RX2 yX2_add yX2_add ∈ GW := gw_at3 9 (by decide +kernel) (by decide +kernel)
theorem wc_X2_add : Cond.code yX2_add cX2_add 6 none ∈ GW := gw_at3 10 (by decide +kernel) (by decide +kernel)
theorem wl_X5_97 : Cond.methodLink RX5 97 yX5_readSay ∈ GW := gw_at3 12 (by decide +kernel) (by decide +kernel)
theorem wn_X5_readSay : Cond.instanceMethod yX5_readSay ∈ GW := gw_at3 14 (by decide +kernel) (by decide +kernel)
theorem wc_X5_readSay : Cond.code yX5_readSay cX5_readSay 4 (some FieldType.boolean) ∈ GW := gw_at3 15 (by decide +kernel) (by decide +kernel)
theorem wl_X5_146 : Cond.methodLink RX5 146 yX5_weatherOfToken ∈ GW := gw_at3 16 (by decide +kernel) (by decide +kernel)
theorem wn_X5_weatherOfToken : Cond.instanceMethod yX5_weatherOfToken ∈ GW := gw_at3 18 (by decide +kernel) (by decide +kernel)
theorem wc_X5_weatherOfToken : Cond.code yX5_weatherOfToken cX5_weatherOfToken 1 (some FieldType.int) ∈ GW := gw_at3 19 (by decide +kernel) (by decide +kernel)
theorem wl_X5_149 : Cond.methodLink RX5 149 yX8_refusalToPrint ∈ GW := gw_at3 23 (by decide +kernel) (by decide +kernel)
theorem wn_X8_refusalToPrint : Cond.instanceMethod yX8_refusalToPrint ∈ GW := gw_at3 24 (by decide +kernel) (by decide +kernel)
theorem we_X8_refusalToPrint : Cond.selects RX8 yX8_refusalToPrint yX8_refusalToPrint ∈ GW := gw_at3 25 (by decide +kernel) (by decide +kernel)
theorem wc_X8_refusalToPrint : Cond.code yX8_refusalToPrint cX8_refusalToPrint 3 (some FieldType.int) ∈ GW := gw_at3 26 (by decide +kernel) (by decide +kernel)
theorem wl_X8_104 : Cond.methodLink RX8 104 yX0_placeOf ∈ GW := gw_at3 28 (by decide +kernel) (by decide +kernel)
theorem wn_X0_placeOf : Cond.instanceMethod yX0_placeOf ∈ GW := gw_at3 29 (by decide +kernel) (by decide +kernel)
theorem we_X0_placeOf : Cond.selects RX0 yX0_placeOf yX0_placeOf ∈ GW := gw_at3 30 (by decide +kernel) (by decide +kernel)
theorem wc_X0_placeOf : Cond.code yX0_placeOf cX0_placeOf 4 (some FieldType.int) ∈ GW := gw_at3 31 (by decide +kernel) (by decide +kernel)
theorem wl_X5_157 : Cond.methodLink RX5 157 yX0_add ∈ GW := gw_at3 32 (by decide +kernel) (by decide +kernel)
theorem wn_X0_add : Cond.instanceMethod yX0_add ∈ GW := gw_at3 33 (by decide +kernel) (by decide +kernel)
theorem we_X0_add : Cond.selects RX0 yX0_add yX0_add ∈ GW := gw_at3 34 (by decide +kernel) (by decide +kernel)
theorem wc_X0_add : Cond.code yX0_add cX0_add 4 none ∈ GW := gw_at3 35 (by decide +kernel) (by decide +kernel)
theorem wl_X5_102 : Cond.methodLink RX5 102 yX5_readRetract ∈ GW := gw_at3 37 (by decide +kernel) (by decide +kernel)
theorem wn_X5_readRetract : Cond.instanceMethod yX5_readRetract ∈ GW := gw_at3 39 (by decide +kernel) (by decide +kernel)
theorem wc_X5_readRetract : Cond.code yX5_readRetract cX5_readRetract 2 (some FieldType.boolean) ∈ GW := gw_at3 40 (by decide +kernel) (by decide +kernel)
theorem wl_X5_160 : Cond.methodLink RX5 160 yX0_hasPage ∈ GW := gw_at3 41 (by decide +kernel) (by decide +kernel)
theorem wn_X0_hasPage : Cond.instanceMethod yX0_hasPage ∈ GW := gw_at3 42 (by decide +kernel) (by decide +kernel)
theorem we_X0_hasPage : Cond.selects RX0 yX0_hasPage yX0_hasPage ∈ GW := gw_at3 43 (by decide +kernel) (by decide +kernel)
theorem wc_X0_hasPage : Cond.code yX0_hasPage cX0_hasPage 2 (some FieldType.boolean) ∈ GW := gw_at3 44 (by decide +kernel) (by decide +kernel)
theorem wl_X0_41 : Cond.methodLink RX0 41 yX0_pages ∈ GW := gw_at3 45 (by decide +kernel) (by decide +kernel)
theorem wn_X0_pages : Cond.instanceMethod yX0_pages ∈ GW := gw_at3 46 (by decide +kernel) (by decide +kernel)
theorem we_X0_pages : Cond.selects RX0 yX0_pages yX0_pages ∈ GW := gw_at3 47 (by decide +kernel) (by decide +kernel)
theorem wc_X0_pages : Cond.code yX0_pages cX0_pages 1 (some FieldType.int) ∈ GW := gw_at3 48 (by decide +kernel) (by decide +kernel)
theorem wl_X5_163 : Cond.methodLink RX5 163 yX8_canPayBackPage ∈ GW := gw_at3 49 (by decide +kernel) (by decide +kernel)
theorem wn_X8_canPayBackPage : Cond.instanceMethod yX8_canPayBackPage ∈ GW := gw_at3 50 (by decide +kernel) (by decide +kernel)
theorem we_X8_canPayBackPage : Cond.selects RX8 yX8_canPayBackPage yX8_canPayBackPage ∈ GW := gw_at3 51 (by decide +kernel) (by decide +kernel)
theorem wc_X8_canPayBackPage : Cond.code yX8_canPayBackPage cX8_canPayBackPage 2 (some FieldType.boolean) ∈ GW := gw_at3 52 (by decide +kernel) (by decide +kernel)
theorem wl_X8_108 : Cond.methodLink RX8 108 yX0_paidForPage ∈ GW := gw_at3 53 (by decide +kernel) (by decide +kernel)
theorem wn_X0_paidForPage : Cond.instanceMethod yX0_paidForPage ∈ GW := gw_at3 54 (by decide +kernel) (by decide +kernel)
theorem we_X0_paidForPage : Cond.selects RX0 yX0_paidForPage yX0_paidForPage ∈ GW := gw_at3 55 (by decide +kernel) (by decide +kernel)
theorem wc_X0_paidForPage : Cond.code yX0_paidForPage cX0_paidForPage 4 (some FieldType.int) ∈ GW := gw_at3 56 (by decide +kernel) (by decide +kernel)
theorem wl_X0_50 : Cond.methodLink RX0 50 yX0_startOf ∈ GW := gw_at3 57 (by decide +kernel) (by decide +kernel)
theorem wn_X0_startOf : Cond.instanceMethod yX0_startOf ∈ GW := gw_at3 58 (by decide +kernel) (by decide +kernel)
theorem we_X0_startOf : Cond.selects RX0 yX0_startOf yX0_startOf ∈ GW := gw_at3 59 (by decide +kernel) (by decide +kernel)
theorem wc_X0_startOf : Cond.code yX0_startOf cX0_startOf 2 (some FieldType.int) ∈ GW := gw_at3 60 (by decide +kernel) (by decide +kernel)
theorem wl_X0_54 : Cond.methodLink RX0 54 yX0_endOf ∈ GW := gw_at3 61 (by decide +kernel) (by decide +kernel)
theorem wn_X0_endOf : Cond.instanceMethod yX0_endOf ∈ GW := gw_at3 62 (by decide +kernel) (by decide +kernel)
theorem we_X0_endOf : Cond.selects RX0 yX0_endOf yX0_endOf ∈ GW := gw_at3 63 (by decide +kernel) (by decide +kernel)
theorem wc_X0_endOf : Cond.code yX0_endOf cX0_endOf 2 (some FieldType.int) ∈ GW := gw_at3 64 (by decide +kernel) (by decide +kernel)
theorem wl_X0_45 : Cond.methodLink RX0 45 Lib.Math.min.name ∈ GW := gw_at3 65 (by decide +kernel) (by decide +kernel)
theorem wl_X5_166 : Cond.methodLink RX5 166 yX8_takeBackPage ∈ GW := gw_at3 66 (by decide +kernel) (by decide +kernel)
theorem wn_X8_takeBackPage : Cond.instanceMethod yX8_takeBackPage ∈ GW := gw_at3 67 (by decide +kernel) (by decide +kernel)
theorem we_X8_takeBackPage : Cond.selects RX8 yX8_takeBackPage yX8_takeBackPage ∈ GW := gw_at3 68 (by decide +kernel) (by decide +kernel)
theorem wc_X8_takeBackPage : Cond.code yX8_takeBackPage cX8_takeBackPage 6 (some FieldType.int) ∈ GW := gw_at3 69 (by decide +kernel) (by decide +kernel)
theorem wl_X8_112 : Cond.methodLink RX8 112 yX0_startOf ∈ GW := gw_at3 70 (by decide +kernel) (by decide +kernel)
theorem wl_X8_115 : Cond.methodLink RX8 115 yX0_endOf ∈ GW := gw_at3 71 (by decide +kernel) (by decide +kernel)
theorem wl_X8_120 : Cond.methodLink RX8 120 yX9_changeTrust ∈ GW := gw_at3 72 (by decide +kernel) (by decide +kernel)
theorem wn_X9_changeTrust : Cond.instanceMethod yX9_changeTrust ∈ GW := gw_at3 73 (by decide +kernel) (by decide +kernel)
theorem we_X9_changeTrust : Cond.selects RX9 yX9_changeTrust yX9_changeTrust ∈ GW := gw_at3 74 (by decide +kernel) (by decide +kernel)
theorem wc_X9_changeTrust : Cond.code yX9_changeTrust cX9_changeTrust 4 none ∈ GW := gw_at3 75 (by decide +kernel) (by decide +kernel)
theorem wl_X9_29 : Cond.methodLink RX9 29 yX9_has ∈ GW := gw_at3 76 (by decide +kernel) (by decide +kernel)
theorem wn_X9_has : Cond.instanceMethod yX9_has ∈ GW := gw_at3 77 (by decide +kernel) (by decide +kernel)
theorem we_X9_has : Cond.selects RX9 yX9_has yX9_has ∈ GW := gw_at3 78 (by decide +kernel) (by decide +kernel)
theorem wc_X9_has : Cond.code yX9_has cX9_has 2 (some FieldType.boolean) ∈ GW := gw_at3 79 (by decide +kernel) (by decide +kernel)
theorem wl_X8_127 : Cond.methodLink RX8 127 yX0_remove ∈ GW := gw_at3 80 (by decide +kernel) (by decide +kernel)
theorem wn_X0_remove : Cond.instanceMethod yX0_remove ∈ GW := gw_at3 81 (by decide +kernel) (by decide +kernel)
theorem we_X0_remove : Cond.selects RX0 yX0_remove yX0_remove ∈ GW := gw_at3 82 (by decide +kernel) (by decide +kernel)
theorem wc_X0_remove : Cond.code yX0_remove cX0_remove 4 none ∈ GW := gw_at3 83 (by decide +kernel) (by decide +kernel)
theorem wl_X0_35 : Cond.methodLink RX0 35 arraycopyName ∈ GW := gw_at3 84 (by decide +kernel) (by decide +kernel)
theorem wst_arraycopyName : Cond.static arraycopyName ∈ GW := gw_at3 85 (by decide +kernel) (by decide +kernel)
theorem wnat_arraycopyName : Cond.native arraycopyName ∈ GW := gw_at3 86 (by decide +kernel) (by decide +kernel)
theorem wl_X8_130 : Cond.methodLink RX8 130 yX8_payBack ∈ GW := gw_at3 87 (by decide +kernel) (by decide +kernel)
theorem wn_X8_payBack : Cond.instanceMethod yX8_payBack ∈ GW := gw_at3 89 (by decide +kernel) (by decide +kernel)
theorem wc_X8_payBack : Cond.code yX8_payBack cX8_payBack 2 none ∈ GW := gw_at3 90 (by decide +kernel) (by decide +kernel)
theorem wl_X5_107 : Cond.methodLink RX5 107 yX5_readPass ∈ GW := gw_at3 92 (by decide +kernel) (by decide +kernel)
theorem wn_X5_readPass : Cond.instanceMethod yX5_readPass ∈ GW := gw_at3 94 (by decide +kernel) (by decide +kernel)
theorem wc_X5_readPass : Cond.code yX5_readPass cX5_readPass 2 (some FieldType.boolean) ∈ GW := gw_at3 95 (by decide +kernel) (by decide +kernel)
theorem wl_X5_169 : Cond.methodLink RX5 169 yX8_letDaysPass ∈ GW := gw_at3 96 (by decide +kernel) (by decide +kernel)
theorem wn_X8_letDaysPass : Cond.instanceMethod yX8_letDaysPass ∈ GW := gw_at3 97 (by decide +kernel) (by decide +kernel)
theorem we_X8_letDaysPass : Cond.selects RX8 yX8_letDaysPass yX8_letDaysPass ∈ GW := gw_at3 98 (by decide +kernel) (by decide +kernel)
theorem wc_X8_letDaysPass : Cond.code yX8_letDaysPass cX8_letDaysPass 4 none ∈ GW := gw_at3 99 (by decide +kernel) (by decide +kernel)
theorem wl_X8_134 : Cond.methodLink RX8 134 yX2_isHeld ∈ GW := gw_at3 100 (by decide +kernel) (by decide +kernel)
theorem wn_X2_isHeld : Cond.instanceMethod yX2_isHeld ∈ GW := gw_at3 101 (by decide +kernel) (by decide +kernel)
theorem we_X2_isHeld : Cond.selects RX2 yX2_isHeld yX2_isHeld ∈ GW := gw_at3 102 (by decide +kernel) (by decide +kernel)
theorem wc_X2_isHeld : Cond.code yX2_isHeld cX2_isHeld 4 (some FieldType.boolean) ∈ GW := gw_at3 103 (by decide +kernel) (by decide +kernel)
theorem wl_X8_138 : Cond.methodLink RX8 138 yX8_sellAt ∈ GW := gw_at3 104 (by decide +kernel) (by decide +kernel)
theorem wn_X8_sellAt : Cond.instanceMethod yX8_sellAt ∈ GW := gw_at3 106 (by decide +kernel) (by decide +kernel)
theorem wc_X8_sellAt : Cond.code yX8_sellAt cX8_sellAt 7 none ∈ GW := gw_at3 107 (by decide +kernel) (by decide +kernel)
theorem wl_X8_158 : Cond.methodLink RX8 158 yX9_wish ∈ GW := gw_at3 108 (by decide +kernel) (by decide +kernel)
theorem wn_X9_wish : Cond.instanceMethod yX9_wish ∈ GW := gw_at3 109 (by decide +kernel) (by decide +kernel)
theorem we_X9_wish : Cond.selects RX9 yX9_wish yX9_wish ∈ GW := gw_at3 110 (by decide +kernel) (by decide +kernel)
theorem wc_X9_wish : Cond.code yX9_wish cX9_wish 3 (some FieldType.int) ∈ GW := gw_at3 111 (by decide +kernel) (by decide +kernel)
theorem wl_X8_161 : Cond.methodLink RX8 161 Lib.Math.min.name ∈ GW := gw_at3 112 (by decide +kernel) (by decide +kernel)
theorem wl_X8_141 : Cond.methodLink RX8 141 yX7_draw ∈ GW := gw_at3 113 (by decide +kernel) (by decide +kernel)
theorem wn_X7_draw : Cond.instanceMethod yX7_draw ∈ GW := gw_at3 114 (by decide +kernel) (by decide +kernel)
theorem we_X7_draw : Cond.selects RX7 yX7_draw yX7_draw ∈ GW := gw_at3 115 (by decide +kernel) (by decide +kernel)
theorem wc_X7_draw : Cond.code yX7_draw cX7_draw 2 (some FieldType.int) ∈ GW := gw_at3 116 (by decide +kernel) (by decide +kernel)
theorem wl_X7_26 : Cond.methodLink RX7 26 yX7_seedAfter ∈ GW := gw_at3 117 (by decide +kernel) (by decide +kernel)
theorem wst_X7_seedAfter : Cond.static yX7_seedAfter ∈ GW := gw_at3 118 (by decide +kernel) (by decide +kernel)
theorem wc_X7_seedAfter : Cond.code yX7_seedAfter cX7_seedAfter 1 (some FieldType.int) ∈ GW := gw_at3 119 (by decide +kernel) (by decide +kernel)
theorem wl_X7_30 : Cond.methodLink RX7 30 yX7_weatherFor ∈ GW := gw_at3 120 (by decide +kernel) (by decide +kernel)
theorem wn_X7_weatherFor : Cond.instanceMethod yX7_weatherFor ∈ GW := gw_at3 121 (by decide +kernel) (by decide +kernel)
theorem we_X7_weatherFor : Cond.selects RX7 yX7_weatherFor yX7_weatherFor ∈ GW := gw_at3 122 (by decide +kernel) (by decide +kernel)
theorem wc_X7_weatherFor : Cond.code yX7_weatherFor cX7_weatherFor 4 (some FieldType.int) ∈ GW := gw_at3 123 (by decide +kernel) (by decide +kernel)
theorem wl_X7_22 : Cond.methodLink RX7 22 yX7_sumOfOdds ∈ GW := gw_at3 124 (by decide +kernel) (by decide +kernel)
theorem wl_X8_145 : Cond.methodLink RX8 145 yX8_judge ∈ GW := gw_at3 125 (by decide +kernel) (by decide +kernel)
theorem wn_X8_judge : Cond.instanceMethod yX8_judge ∈ GW := gw_at3 127 (by decide +kernel) (by decide +kernel)
theorem wc_X8_judge : Cond.code yX8_judge cX8_judge 5 none ∈ GW := gw_at3 128 (by decide +kernel) (by decide +kernel)
theorem wl_X8_175 : Cond.methodLink RX8 175 yX4_add ∈ GW := gw_at3 129 (by decide +kernel) (by decide +kernel)
theorem wn_X4_add : Cond.instanceMethod yX4_add ∈ GW := gw_at3 130 (by decide +kernel) (by decide +kernel)
theorem we_X4_add : Cond.selects RX4 yX4_add yX4_add ∈ GW := gw_at3 131 (by decide +kernel) (by decide +kernel)
theorem wc_X4_add : Cond.code yX4_add cX4_add 3 none ∈ GW := gw_at3 132 (by decide +kernel) (by decide +kernel)
theorem wl_X4_17 : Cond.methodLink RX4 17 arraycopyName ∈ GW := gw_at3 133 (by decide +kernel) (by decide +kernel)
theorem wst_X10_labelOf : Cond.static yX10_labelOf ∈ GW := gw_at3 135 (by decide +kernel) (by decide +kernel)
theorem wc_X10_labelOf : Cond.code yX10_labelOf cX10_labelOf 2 (some FieldType.int) ∈ GW := gw_at3 136 (by decide +kernel) (by decide +kernel)
theorem wl_X8_148 : Cond.methodLink RX8 148 yX7_closeYear ∈ GW := gw_at3 137 (by decide +kernel) (by decide +kernel)
theorem wn_X7_closeYear : Cond.instanceMethod yX7_closeYear ∈ GW := gw_at3 138 (by decide +kernel) (by decide +kernel)
theorem we_X7_closeYear : Cond.selects RX7 yX7_closeYear yX7_closeYear ∈ GW := gw_at3 139 (by decide +kernel) (by decide +kernel)
theorem wc_X7_closeYear : Cond.code yX7_closeYear cX7_closeYear 4 none ∈ GW := gw_at3 140 (by decide +kernel) (by decide +kernel)
theorem wl_X7_33 : Cond.methodLink RX7 33 yX7_firstGreatest ∈ GW := gw_at3 141 (by decide +kernel) (by decide +kernel)
theorem wst_X7_firstGreatest : Cond.static yX7_firstGreatest ∈ GW := gw_at3 142 (by decide +kernel) (by decide +kernel)
theorem wc_X7_firstGreatest : Cond.code yX7_firstGreatest cX7_firstGreatest 3 (some FieldType.int) ∈ GW := gw_at3 143 (by decide +kernel) (by decide +kernel)
theorem wl_X7_37 : Cond.methodLink RX7 37 yX7_lastLeast ∈ GW := gw_at3 144 (by decide +kernel) (by decide +kernel)
theorem wst_X7_lastLeast : Cond.static yX7_lastLeast ∈ GW := gw_at3 145 (by decide +kernel) (by decide +kernel)
theorem wc_X7_lastLeast : Cond.code yX7_lastLeast cX7_lastLeast 3 (some FieldType.int) ∈ GW := gw_at3 146 (by decide +kernel) (by decide +kernel)
theorem wl_X10_66 : Cond.methodLink RX10 66 yX8_takeFrom ∈ GW := gw_at3 147 (by decide +kernel) (by decide +kernel)
theorem wn_X8_takeFrom : Cond.instanceMethod yX8_takeFrom ∈ GW := gw_at3 148 (by decide +kernel) (by decide +kernel)
theorem we_X8_takeFrom : Cond.selects RX8 yX8_takeFrom yX8_takeFrom ∈ GW := gw_at3 149 (by decide +kernel) (by decide +kernel)
theorem wc_X8_takeFrom : Cond.code yX8_takeFrom cX8_takeFrom 2 none ∈ GW := gw_at3 150 (by decide +kernel) (by decide +kernel)
theorem wl_X8_84 : Cond.methodLink RX8 84 yX9_takeFrom ∈ GW := gw_at3 151 (by decide +kernel) (by decide +kernel)
theorem wn_X9_takeFrom : Cond.instanceMethod yX9_takeFrom ∈ GW := gw_at3 152 (by decide +kernel) (by decide +kernel)
theorem we_X9_takeFrom : Cond.selects RX9 yX9_takeFrom yX9_takeFrom ∈ GW := gw_at3 153 (by decide +kernel) (by decide +kernel)
theorem wc_X9_takeFrom : Cond.code yX9_takeFrom cX9_takeFrom 2 none ∈ GW := gw_at3 154 (by decide +kernel) (by decide +kernel)
theorem wl_X9_33 : Cond.methodLink RX9 33 arraycopyName ∈ GW := gw_at3 155 (by decide +kernel) (by decide +kernel)
theorem wl_X8_88 : Cond.methodLink RX8 88 yX2_takeFrom ∈ GW := gw_at3 156 (by decide +kernel) (by decide +kernel)
theorem wn_X2_takeFrom : Cond.instanceMethod yX2_takeFrom ∈ GW := gw_at3 157 (by decide +kernel) (by decide +kernel)
theorem we_X2_takeFrom : Cond.selects RX2 yX2_takeFrom yX2_takeFrom ∈ GW := gw_at3 158 (by decide +kernel) (by decide +kernel)
theorem wc_X2_takeFrom : Cond.code yX2_takeFrom cX2_takeFrom 2 none ∈ GW := gw_at3 159 (by decide +kernel) (by decide +kernel)
theorem wl_X2_35 : Cond.methodLink RX2 35 arraycopyName ∈ GW := gw_at3 160 (by decide +kernel) (by decide +kernel)
theorem wl_X8_91 : Cond.methodLink RX8 91 yX7_takeFrom ∈ GW := gw_at3 161 (by decide +kernel) (by decide +kernel)
theorem wn_X7_takeFrom : Cond.instanceMethod yX7_takeFrom ∈ GW := gw_at3 162 (by decide +kernel) (by decide +kernel)
theorem we_X7_takeFrom : Cond.selects RX7 yX7_takeFrom yX7_takeFrom ∈ GW := gw_at3 163 (by decide +kernel) (by decide +kernel)
theorem wc_X7_takeFrom : Cond.code yX7_takeFrom cX7_takeFrom 2 none ∈ GW := gw_at3 164 (by decide +kernel) (by decide +kernel)
theorem wl_X7_40 : Cond.methodLink RX7 40 arraycopyName ∈ GW := gw_at3 165 (by decide +kernel) (by decide +kernel)
theorem wl_X8_94 : Cond.methodLink RX8 94 yX0_takeFrom ∈ GW := gw_at3 166 (by decide +kernel) (by decide +kernel)
theorem wn_X0_takeFrom : Cond.instanceMethod yX0_takeFrom ∈ GW := gw_at3 167 (by decide +kernel) (by decide +kernel)
theorem we_X0_takeFrom : Cond.selects RX0 yX0_takeFrom yX0_takeFrom ∈ GW := gw_at3 168 (by decide +kernel) (by decide +kernel)
theorem wc_X0_takeFrom : Cond.code yX0_takeFrom cX0_takeFrom 2 none ∈ GW := gw_at3 169 (by decide +kernel) (by decide +kernel)
theorem wl_X8_97 : Cond.methodLink RX8 97 yX4_takeFrom ∈ GW := gw_at3 170 (by decide +kernel) (by decide +kernel)
theorem wn_X4_takeFrom : Cond.instanceMethod yX4_takeFrom ∈ GW := gw_at3 171 (by decide +kernel) (by decide +kernel)
theorem we_X4_takeFrom : Cond.selects RX4 yX4_takeFrom yX4_takeFrom ∈ GW := gw_at3 172 (by decide +kernel) (by decide +kernel)
theorem wc_X4_takeFrom : Cond.code yX4_takeFrom cX4_takeFrom 2 none ∈ GW := gw_at3 173 (by decide +kernel) (by decide +kernel)
theorem wf_X10_10 : Cond.fieldLink RX10 10 "AlmanacOffice" "input" "LAlmanacOffice$Bytes;" ∈ GW := gw_at3 174 (by decide +kernel) (by decide +kernel)
theorem wf_X10_16 : Cond.fieldLink RX10 16 "AlmanacOffice" "output" "LAlmanacOffice$Bytes;" ∈ GW := gw_at3 175 (by decide +kernel) (by decide +kernel)
theorem wf_X10_22 : Cond.fieldLink RX10 22 "AlmanacOffice" "state" "LAlmanacOffice$State;" ∈ GW := gw_at3 176 (by decide +kernel) (by decide +kernel)
theorem wf_X10_26 : Cond.fieldLink RX10 26 "AlmanacOffice" "draft" "LAlmanacOffice$State;" ∈ GW := gw_at3 177 (by decide +kernel) (by decide +kernel)
theorem wf_X10_32 : Cond.fieldLink RX10 32 "AlmanacOffice" "history" "LAlmanacOffice$History;" ∈ GW := gw_at3 178 (by decide +kernel) (by decide +kernel)
theorem wf_X10_36 : Cond.fieldLink RX10 36 "AlmanacOffice" "slots" "[LAlmanacOffice$State;" ∈ GW := gw_at3 179 (by decide +kernel) (by decide +kernel)
theorem wf_X10_40 : Cond.fieldLink RX10 40 "AlmanacOffice" "slotIsFull" "[Z" ∈ GW := gw_at3 180 (by decide +kernel) (by decide +kernel)
theorem wf_X10_44 : Cond.fieldLink RX10 44 "AlmanacOffice" "errorCode" "I" ∈ GW := gw_at3 181 (by decide +kernel) (by decide +kernel)
theorem wf_X10_48 : Cond.fieldLink RX10 48 "AlmanacOffice" "errorPosition" "I" ∈ GW := gw_at3 182 (by decide +kernel) (by decide +kernel)
theorem wl_L_127 : Cond.methodLink RL 127 yX10_errorCode ∈ GW := gw_at3 202 (by decide +kernel) (by decide +kernel)
theorem wn_X10_errorCode : Cond.instanceMethod yX10_errorCode ∈ GW := gw_at3 203 (by decide +kernel) (by decide +kernel)
theorem we_X10_errorCode : Cond.selects RX10 yX10_errorCode yX10_errorCode ∈ GW := gw_at3 204 (by decide +kernel) (by decide +kernel)
theorem wc_X10_errorCode : Cond.code yX10_errorCode cX10_errorCode 1 (some FieldType.int) ∈ GW := gw_at3 205 (by decide +kernel) (by decide +kernel)
theorem wl_L_133 : Cond.methodLink RL 133 yX10_seed ∈ GW := gw_at3 206 (by decide +kernel) (by decide +kernel)
theorem wn_X10_seed : Cond.instanceMethod yX10_seed ∈ GW := gw_at3 207 (by decide +kernel) (by decide +kernel)
theorem we_X10_seed : Cond.selects RX10 yX10_seed yX10_seed ∈ GW := gw_at3 208 (by decide +kernel) (by decide +kernel)
theorem wc_X10_seed : Cond.code yX10_seed cX10_seed 1 (some FieldType.int) ∈ GW := gw_at3 209 (by decide +kernel) (by decide +kernel)
theorem wl_L_130 : Cond.methodLink RL 130 yX10_fairCount ∈ GW := gw_at3 210 (by decide +kernel) (by decide +kernel)
theorem wn_X10_fairCount : Cond.instanceMethod yX10_fairCount ∈ GW := gw_at3 211 (by decide +kernel) (by decide +kernel)
theorem we_X10_fairCount : Cond.selects RX10 yX10_fairCount yX10_fairCount ∈ GW := gw_at3 212 (by decide +kernel) (by decide +kernel)
theorem wc_X10_fairCount : Cond.code yX10_fairCount cX10_fairCount 1 (some FieldType.int) ∈ GW := gw_at3 213 (by decide +kernel) (by decide +kernel)
theorem wl_L_151 : Cond.methodLink RL 151 yX10_copyDifference ∈ GW := gw_at3 214 (by decide +kernel) (by decide +kernel)
theorem wn_X10_copyDifference : Cond.instanceMethod yX10_copyDifference ∈ GW := gw_at3 215 (by decide +kernel) (by decide +kernel)
theorem we_X10_copyDifference : Cond.selects RX10 yX10_copyDifference yX10_copyDifference ∈ GW := gw_at3 216 (by decide +kernel) (by decide +kernel)
theorem wc_X10_copyDifference : Cond.code yX10_copyDifference cX10_copyDifference 1 (some FieldType.int) ∈ GW := gw_at3 217 (by decide +kernel) (by decide +kernel)
theorem wl_X10_270 : Cond.methodLink RX10 270 yX0_copies ∈ GW := gw_at3 218 (by decide +kernel) (by decide +kernel)
theorem wn_X0_copies : Cond.instanceMethod yX0_copies ∈ GW := gw_at3 219 (by decide +kernel) (by decide +kernel)
theorem we_X0_copies : Cond.selects RX0 yX0_copies yX0_copies ∈ GW := gw_at3 220 (by decide +kernel) (by decide +kernel)
theorem wc_X0_copies : Cond.code yX0_copies cX0_copies 3 (some FieldType.int) ∈ GW := gw_at3 221 (by decide +kernel) (by decide +kernel)
theorem wl_L_154 : Cond.methodLink RL 154 yX10_coinDifference ∈ GW := gw_at3 222 (by decide +kernel) (by decide +kernel)
theorem wn_X10_coinDifference : Cond.instanceMethod yX10_coinDifference ∈ GW := gw_at3 223 (by decide +kernel) (by decide +kernel)
theorem we_X10_coinDifference : Cond.selects RX10 yX10_coinDifference yX10_coinDifference ∈ GW := gw_at3 224 (by decide +kernel) (by decide +kernel)
theorem wc_X10_coinDifference : Cond.code yX10_coinDifference cX10_coinDifference 1 (some FieldType.int) ∈ GW := gw_at3 225 (by decide +kernel) (by decide +kernel)
theorem wl_L_157 : Cond.methodLink RL 157 yX10_bookErrors ∈ GW := gw_at3 226 (by decide +kernel) (by decide +kernel)
theorem wn_X10_bookErrors : Cond.instanceMethod yX10_bookErrors ∈ GW := gw_at3 227 (by decide +kernel) (by decide +kernel)
theorem we_X10_bookErrors : Cond.selects RX10 yX10_bookErrors yX10_bookErrors ∈ GW := gw_at3 228 (by decide +kernel) (by decide +kernel)
theorem wc_X10_bookErrors : Cond.code yX10_bookErrors cX10_bookErrors 1 (some FieldType.int) ∈ GW := gw_at3 229 (by decide +kernel) (by decide +kernel)
theorem wl_X10_282 : Cond.methodLink RX10 282 yX0_errors ∈ GW := gw_at3 230 (by decide +kernel) (by decide +kernel)
theorem wn_X0_errors : Cond.instanceMethod yX0_errors ∈ GW := gw_at3 231 (by decide +kernel) (by decide +kernel)
theorem we_X0_errors : Cond.selects RX0 yX0_errors yX0_errors ∈ GW := gw_at3 232 (by decide +kernel) (by decide +kernel)
theorem wc_X0_errors : Cond.code yX0_errors cX0_errors 3 (some FieldType.int) ∈ GW := gw_at3 233 (by decide +kernel) (by decide +kernel)
theorem wl_X0_60 : Cond.methodLink RX0 60 yX0_placeOf ∈ GW := gw_at3 234 (by decide +kernel) (by decide +kernel)
theorem wk_L_136 : Cond.classLink RL 136 RX11 ∈ GW := gw_at3 235 (by decide +kernel) (by decide +kernel)
theorem wt_X11 : Cond.instantiable RX11 16 ∈ GW := gw_at3 236 (by decide +kernel) (by decide +kernel)
theorem wl_L_138 : Cond.methodLink RL 138 yX11_init ∈ GW := gw_at3 237 (by decide +kernel) (by decide +kernel)
theorem wn_X11_init : Cond.instanceMethod yX11_init ∈ GW := gw_at3 238 (by decide +kernel) (by decide +kernel)
theorem wc_X11_init : Cond.code yX11_init cX11_init 3 none ∈ GW := gw_at3 239 (by decide +kernel) (by decide +kernel)
theorem wl_X11_1 : Cond.methodLink RX11 1 objectInit ∈ GW := gw_at4 0 (by decide +kernel) (by decide +kernel)
theorem wk_X11_34 : Cond.classLink RX11 34 "[I" ∈ GW := gw_at4 1 (by decide +kernel) (by decide +kernel)
theorem wst_L_cell : Cond.static yL_cell ∈ GW := gw_at4 4 (by decide +kernel) (by decide +kernel)
theorem wc_L_cell : Cond.code yL_cell cL_cell 2 (some FieldType.int) ∈ GW := gw_at4 5 (by decide +kernel) (by decide +kernel)
theorem wx_L_7 : Cond.constant RL 7 (2147483647 : Int32) ∈ GW := gw_at4 6 (by decide +kernel) (by decide +kernel)
theorem wst_L_odds : Cond.static yL_odds ∈ GW := gw_at4 8 (by decide +kernel) (by decide +kernel)
theorem wc_L_odds : Cond.code yL_odds cL_odds 2 (some FieldType.int) ∈ GW := gw_at4 9 (by decide +kernel) (by decide +kernel)
theorem wl_L_33 : Cond.methodLink RL 33 yL_cell ∈ GW := gw_at4 10 (by decide +kernel) (by decide +kernel)
theorem wx_L_39 : Cond.constant RL 39 (32768 : Int32) ∈ GW := gw_at4 11 (by decide +kernel) (by decide +kernel)
theorem wst_L_people : Cond.static yL_people ∈ GW := gw_at4 13 (by decide +kernel) (by decide +kernel)
theorem wc_L_people : Cond.code yL_people cL_people 2 (some FieldType.int) ∈ GW := gw_at4 14 (by decide +kernel) (by decide +kernel)
theorem wst_L_trust : Cond.static yL_trust ∈ GW := gw_at4 16 (by decide +kernel) (by decide +kernel)
theorem wc_L_trust : Cond.code yL_trust cL_trust 2 (some FieldType.int) ∈ GW := gw_at4 17 (by decide +kernel) (by decide +kernel)
theorem wst_L_place : Cond.static yL_place ∈ GW := gw_at4 19 (by decide +kernel) (by decide +kernel)
theorem wc_L_place : Cond.code yL_place cL_place 2 (some FieldType.int) ∈ GW := gw_at4 20 (by decide +kernel) (by decide +kernel)
theorem wst_L_period : Cond.static yL_period ∈ GW := gw_at4 22 (by decide +kernel) (by decide +kernel)
theorem wc_L_period : Cond.code yL_period cL_period 2 (some FieldType.int) ∈ GW := gw_at4 23 (by decide +kernel) (by decide +kernel)
theorem wst_L_stock : Cond.static yL_stock ∈ GW := gw_at4 25 (by decide +kernel) (by decide +kernel)
theorem wc_L_stock : Cond.code yL_stock cL_stock 2 (some FieldType.int) ∈ GW := gw_at4 26 (by decide +kernel) (by decide +kernel)
theorem wst_L_price : Cond.static yL_price ∈ GW := gw_at4 28 (by decide +kernel) (by decide +kernel)
theorem wc_L_price : Cond.code yL_price cL_price 2 (some FieldType.int) ∈ GW := gw_at4 29 (by decide +kernel) (by decide +kernel)
theorem wf_X11_7 : Cond.fieldLink RX11 7 "AlmanacOfficeLaw$Hand" "people" "[I" ∈ GW := gw_at4 30 (by decide +kernel) (by decide +kernel)
theorem wf_X11_13 : Cond.fieldLink RX11 13 "AlmanacOfficeLaw$Hand" "trust" "[I" ∈ GW := gw_at4 31 (by decide +kernel) (by decide +kernel)
theorem wf_X11_16 : Cond.fieldLink RX11 16 "AlmanacOfficeLaw$Hand" "odds" "[I" ∈ GW := gw_at4 32 (by decide +kernel) (by decide +kernel)
theorem wf_X11_19 : Cond.fieldLink RX11 19 "AlmanacOfficeLaw$Hand" "drawn" "[I" ∈ GW := gw_at4 33 (by decide +kernel) (by decide +kernel)
theorem wf_X11_22 : Cond.fieldLink RX11 22 "AlmanacOfficeLaw$Hand" "where" "[I" ∈ GW := gw_at4 34 (by decide +kernel) (by decide +kernel)
theorem wf_X11_25 : Cond.fieldLink RX11 25 "AlmanacOfficeLaw$Hand" "period" "[I" ∈ GW := gw_at4 35 (by decide +kernel) (by decide +kernel)
theorem wf_X11_28 : Cond.fieldLink RX11 28 "AlmanacOfficeLaw$Hand" "stock" "[I" ∈ GW := gw_at4 36 (by decide +kernel) (by decide +kernel)
theorem wf_X11_31 : Cond.fieldLink RX11 31 "AlmanacOfficeLaw$Hand" "price" "[I" ∈ GW := gw_at4 37 (by decide +kernel) (by decide +kernel)
theorem wf_X11_35 : Cond.fieldLink RX11 35 "AlmanacOfficeLaw$Hand" "book" "[[I" ∈ GW := gw_at4 38 (by decide +kernel) (by decide +kernel)
theorem wf_X11_39 : Cond.fieldLink RX11 39 "AlmanacOfficeLaw$Hand" "regrets" "[I" ∈ GW := gw_at4 39 (by decide +kernel) (by decide +kernel)
theorem wf_X11_48 : Cond.fieldLink RX11 48 "AlmanacOfficeLaw$Hand" "seed" "I" ∈ GW := gw_at4 40 (by decide +kernel) (by decide +kernel)
theorem wf_X11_70 : Cond.fieldLink RX11 70 "AlmanacOfficeLaw$Hand" "day" "I" ∈ GW := gw_at4 41 (by decide +kernel) (by decide +kernel)
theorem wf_X11_82 : Cond.fieldLink RX11 82 "AlmanacOfficeLaw$Hand" "coins" "I" ∈ GW := gw_at4 42 (by decide +kernel) (by decide +kernel)
theorem wf_X11_92 : Cond.fieldLink RX11 92 "AlmanacOfficeLaw$Hand" "hits" "I" ∈ GW := gw_at4 43 (by decide +kernel) (by decide +kernel)
theorem wf_X11_67 : Cond.fieldLink RX11 67 "AlmanacOfficeLaw$Hand" "misses" "I" ∈ GW := gw_at4 44 (by decide +kernel) (by decide +kernel)
theorem wf_X11_105 : Cond.fieldLink RX11 105 "AlmanacOfficeLaw$Hand" "retracted" "I" ∈ GW := gw_at4 45 (by decide +kernel) (by decide +kernel)
theorem wl_L_141 : Cond.methodLink RL 141 yX11_acts ∈ GW := gw_at4 79 (by decide +kernel) (by decide +kernel)
theorem wn_X11_acts : Cond.instanceMethod yX11_acts ∈ GW := gw_at4 80 (by decide +kernel) (by decide +kernel)
theorem we_X11_acts : Cond.selects RX11 yX11_acts yX11_acts ∈ GW := gw_at4 81 (by decide +kernel) (by decide +kernel)
theorem wc_X11_acts : Cond.code yX11_acts cX11_acts 7 (some FieldType.int) ∈ GW := gw_at4 82 (by decide +kernel) (by decide +kernel)
theorem wl_X11_85 : Cond.methodLink RX11 85 yX11_find ∈ GW := gw_at4 83 (by decide +kernel) (by decide +kernel)
theorem wn_X11_find : Cond.instanceMethod yX11_find ∈ GW := gw_at4 85 (by decide +kernel) (by decide +kernel)
theorem wc_X11_find : Cond.code yX11_find cX11_find 4 (some FieldType.int) ∈ GW := gw_at4 86 (by decide +kernel) (by decide +kernel)
theorem wl_X11_108 : Cond.methodLink RX11 108 yX11_with ∈ GW := gw_at4 87 (by decide +kernel) (by decide +kernel)
theorem wst_X11_with : Cond.static yX11_with ∈ GW := gw_at4 88 (by decide +kernel) (by decide +kernel)
theorem wl_X11_112 : Cond.methodLink RX11 112 yX11_retracts ∈ GW := gw_at4 90 (by decide +kernel) (by decide +kernel)
theorem wn_X11_retracts : Cond.instanceMethod yX11_retracts ∈ GW := gw_at4 92 (by decide +kernel) (by decide +kernel)
theorem wc_X11_retracts : Cond.code yX11_retracts cX11_retracts 5 (some FieldType.int) ∈ GW := gw_at4 93 (by decide +kernel) (by decide +kernel)
theorem wl_X11_79 : Cond.methodLink RX11 79 Lib.Math.min.name ∈ GW := gw_at4 94 (by decide +kernel) (by decide +kernel)
theorem wl_X11_73 : Cond.methodLink RX11 73 Lib.Math.max.name ∈ GW := gw_at4 95 (by decide +kernel) (by decide +kernel)
theorem wst_Lib_Math_max_name : Cond.static Lib.Math.max.name ∈ GW := gw_at4 96 (by decide +kernel) (by decide +kernel)
theorem wc_Lib_Math_max_name : Cond.code Lib.Math.max.name cJ9_max_7cf53 2 (some FieldType.int) ∈ GW := gw_at4 97 (by decide +kernel) (by decide +kernel)
theorem wl_X11_88 : Cond.methodLink RX11 88 yX11_without ∈ GW := gw_at4 98 (by decide +kernel) (by decide +kernel)
theorem wst_X11_without : Cond.static yX11_without ∈ GW := gw_at4 99 (by decide +kernel) (by decide +kernel)
theorem wl_X11_116 : Cond.methodLink RX11 116 yX11_passes ∈ GW := gw_at4 101 (by decide +kernel) (by decide +kernel)
theorem wn_X11_passes : Cond.instanceMethod yX11_passes ∈ GW := gw_at4 103 (by decide +kernel) (by decide +kernel)
theorem wc_X11_passes : Cond.code yX11_passes cX11_passes 4 none ∈ GW := gw_at4 104 (by decide +kernel) (by decide +kernel)
theorem wl_X11_99 : Cond.methodLink RX11 99 yX11_fair ∈ GW := gw_at4 105 (by decide +kernel) (by decide +kernel)
theorem wn_X11_fair : Cond.instanceMethod yX11_fair ∈ GW := gw_at4 107 (by decide +kernel) (by decide +kernel)
theorem wc_X11_fair : Cond.code yX11_fair cX11_fair 8 none ∈ GW := gw_at4 108 (by decide +kernel) (by decide +kernel)
theorem wl_X11_102 : Cond.methodLink RX11 102 yX11_weather ∈ GW := gw_at4 109 (by decide +kernel) (by decide +kernel)
theorem wn_X11_weather : Cond.instanceMethod yX11_weather ∈ GW := gw_at4 111 (by decide +kernel) (by decide +kernel)
theorem wc_X11_weather : Cond.code yX11_weather cX11_weather 6 none ∈ GW := gw_at4 112 (by decide +kernel) (by decide +kernel)
theorem wl_X11_95 : Cond.methodLink RX11 95 yX11_remembers ∈ GW := gw_at4 113 (by decide +kernel) (by decide +kernel)
theorem wn_X11_remembers : Cond.instanceMethod yX11_remembers ∈ GW := gw_at4 115 (by decide +kernel) (by decide +kernel)
theorem wc_X11_remembers : Cond.code yX11_remembers cX11_remembers 5 none ∈ GW := gw_at4 116 (by decide +kernel) (by decide +kernel)
theorem wl_L_147 : Cond.methodLink RL 147 yX11_agrees ∈ GW := gw_at4 117 (by decide +kernel) (by decide +kernel)
theorem wn_X11_agrees : Cond.instanceMethod yX11_agrees ∈ GW := gw_at4 118 (by decide +kernel) (by decide +kernel)
theorem we_X11_agrees : Cond.selects RX11 yX11_agrees yX11_agrees ∈ GW := gw_at4 119 (by decide +kernel) (by decide +kernel)
theorem wc_X11_agrees : Cond.code yX11_agrees cX11_agrees 4 (some FieldType.boolean) ∈ GW := gw_at4 120 (by decide +kernel) (by decide +kernel)
theorem wl_X11_119 : Cond.methodLink RX11 119 yX10_day ∈ GW := gw_at4 121 (by decide +kernel) (by decide +kernel)
theorem wn_X10_day : Cond.instanceMethod yX10_day ∈ GW := gw_at4 122 (by decide +kernel) (by decide +kernel)
theorem we_X10_day : Cond.selects RX10 yX10_day yX10_day ∈ GW := gw_at4 123 (by decide +kernel) (by decide +kernel)
theorem wc_X10_day : Cond.code yX10_day cX10_day 1 (some FieldType.int) ∈ GW := gw_at4 124 (by decide +kernel) (by decide +kernel)
theorem wl_X11_124 : Cond.methodLink RX11 124 yX10_seed ∈ GW := gw_at4 125 (by decide +kernel) (by decide +kernel)
theorem wl_X11_126 : Cond.methodLink RX11 126 yX10_coins ∈ GW := gw_at4 126 (by decide +kernel) (by decide +kernel)
theorem wn_X10_coins : Cond.instanceMethod yX10_coins ∈ GW := gw_at4 127 (by decide +kernel) (by decide +kernel)
theorem we_X10_coins : Cond.selects RX10 yX10_coins yX10_coins ∈ GW := gw_at4 128 (by decide +kernel) (by decide +kernel)
theorem wc_X10_coins : Cond.code yX10_coins cX10_coins 1 (some FieldType.int) ∈ GW := gw_at4 129 (by decide +kernel) (by decide +kernel)
theorem wl_X11_128 : Cond.methodLink RX11 128 yX10_hits ∈ GW := gw_at4 130 (by decide +kernel) (by decide +kernel)
theorem wn_X10_hits : Cond.instanceMethod yX10_hits ∈ GW := gw_at4 131 (by decide +kernel) (by decide +kernel)
theorem we_X10_hits : Cond.selects RX10 yX10_hits yX10_hits ∈ GW := gw_at4 132 (by decide +kernel) (by decide +kernel)
theorem wc_X10_hits : Cond.code yX10_hits cX10_hits 1 (some FieldType.int) ∈ GW := gw_at4 133 (by decide +kernel) (by decide +kernel)
theorem wl_X11_130 : Cond.methodLink RX11 130 yX10_regrets ∈ GW := gw_at4 134 (by decide +kernel) (by decide +kernel)
theorem wn_X10_regrets : Cond.instanceMethod yX10_regrets ∈ GW := gw_at4 135 (by decide +kernel) (by decide +kernel)
theorem we_X10_regrets : Cond.selects RX10 yX10_regrets yX10_regrets ∈ GW := gw_at4 136 (by decide +kernel) (by decide +kernel)
theorem wc_X10_regrets : Cond.code yX10_regrets cX10_regrets 1 (some FieldType.int) ∈ GW := gw_at4 137 (by decide +kernel) (by decide +kernel)
theorem wl_X11_132 : Cond.methodLink RX11 132 yX10_retractions ∈ GW := gw_at4 138 (by decide +kernel) (by decide +kernel)
theorem wn_X10_retractions : Cond.instanceMethod yX10_retractions ∈ GW := gw_at4 139 (by decide +kernel) (by decide +kernel)
theorem we_X10_retractions : Cond.selects RX10 yX10_retractions yX10_retractions ∈ GW := gw_at4 140 (by decide +kernel) (by decide +kernel)
theorem wc_X10_retractions : Cond.code yX10_retractions cX10_retractions 1 (some FieldType.int) ∈ GW := gw_at4 141 (by decide +kernel) (by decide +kernel)
theorem wl_X11_135 : Cond.methodLink RX11 135 yX10_forecastCount ∈ GW := gw_at4 142 (by decide +kernel) (by decide +kernel)
theorem wn_X10_forecastCount : Cond.instanceMethod yX10_forecastCount ∈ GW := gw_at4 143 (by decide +kernel) (by decide +kernel)
theorem we_X10_forecastCount : Cond.selects RX10 yX10_forecastCount yX10_forecastCount ∈ GW := gw_at4 144 (by decide +kernel) (by decide +kernel)
theorem wc_X10_forecastCount : Cond.code yX10_forecastCount cX10_forecastCount 1 (some FieldType.int) ∈ GW := gw_at4 145 (by decide +kernel) (by decide +kernel)
theorem wl_X11_138 : Cond.methodLink RX11 138 yX10_regretCount ∈ GW := gw_at4 146 (by decide +kernel) (by decide +kernel)
theorem wn_X10_regretCount : Cond.instanceMethod yX10_regretCount ∈ GW := gw_at4 147 (by decide +kernel) (by decide +kernel)
theorem we_X10_regretCount : Cond.selects RX10 yX10_regretCount yX10_regretCount ∈ GW := gw_at4 148 (by decide +kernel) (by decide +kernel)
theorem wc_X10_regretCount : Cond.code yX10_regretCount cX10_regretCount 1 (some FieldType.int) ∈ GW := gw_at4 149 (by decide +kernel) (by decide +kernel)
theorem wl_X11_141 : Cond.methodLink RX11 141 yX10_peopleOf ∈ GW := gw_at4 150 (by decide +kernel) (by decide +kernel)
theorem wn_X10_peopleOf : Cond.instanceMethod yX10_peopleOf ∈ GW := gw_at4 151 (by decide +kernel) (by decide +kernel)
theorem we_X10_peopleOf : Cond.selects RX10 yX10_peopleOf yX10_peopleOf ∈ GW := gw_at4 152 (by decide +kernel) (by decide +kernel)
theorem wc_X10_peopleOf : Cond.code yX10_peopleOf cX10_peopleOf 2 (some FieldType.int) ∈ GW := gw_at4 153 (by decide +kernel) (by decide +kernel)
theorem wl_X10_139 : Cond.methodLink RX10 139 yX10_requireVillage ∈ GW := gw_at4 154 (by decide +kernel) (by decide +kernel)
theorem wn_X10_requireVillage : Cond.instanceMethod yX10_requireVillage ∈ GW := gw_at4 156 (by decide +kernel) (by decide +kernel)
theorem wc_X10_requireVillage : Cond.code yX10_requireVillage cX10_requireVillage 2 none ∈ GW := gw_at4 157 (by decide +kernel) (by decide +kernel)
theorem wl_X10_319 : Cond.methodLink RX10 319 yX9_has ∈ GW := gw_at4 158 (by decide +kernel) (by decide +kernel)
theorem wk_X10_243 : Cond.classLink RX10 243 "java/lang/IndexOutOfBoundsException" ∈ GW := gw_at4 159 (by decide +kernel) (by decide +kernel)
theorem wl_X11_144 : Cond.methodLink RX11 144 yX10_trustOf ∈ GW := gw_at4 224 (by decide +kernel) (by decide +kernel)
theorem wn_X10_trustOf : Cond.instanceMethod yX10_trustOf ∈ GW := gw_at4 225 (by decide +kernel) (by decide +kernel)
theorem we_X10_trustOf : Cond.selects RX10 yX10_trustOf yX10_trustOf ∈ GW := gw_at4 226 (by decide +kernel) (by decide +kernel)
theorem wc_X10_trustOf : Cond.code yX10_trustOf cX10_trustOf 2 (some FieldType.int) ∈ GW := gw_at4 227 (by decide +kernel) (by decide +kernel)
theorem wl_X11_147 : Cond.methodLink RX11 147 yX10_oddsOf ∈ GW := gw_at4 228 (by decide +kernel) (by decide +kernel)
theorem wn_X10_oddsOf : Cond.instanceMethod yX10_oddsOf ∈ GW := gw_at4 229 (by decide +kernel) (by decide +kernel)
theorem we_X10_oddsOf : Cond.selects RX10 yX10_oddsOf yX10_oddsOf ∈ GW := gw_at4 230 (by decide +kernel) (by decide +kernel)
theorem wc_X10_oddsOf : Cond.code yX10_oddsOf cX10_oddsOf 2 (some FieldType.int) ∈ GW := gw_at4 231 (by decide +kernel) (by decide +kernel)
theorem wl_X10_84 : Cond.methodLink RX10 84 yX10_requireRange ∈ GW := gw_at4 232 (by decide +kernel) (by decide +kernel)
theorem wn_X10_requireRange : Cond.instanceMethod yX10_requireRange ∈ GW := gw_at4 234 (by decide +kernel) (by decide +kernel)
theorem wc_X10_requireRange : Cond.code yX10_requireRange cX10_requireRange 4 none ∈ GW := gw_at4 235 (by decide +kernel) (by decide +kernel)
theorem wl_X10_201 : Cond.methodLink RX10 201 yX10_isBetween ∈ GW := gw_at4 236 (by decide +kernel) (by decide +kernel)
theorem wk_X10_93 : Cond.classLink RX10 93 "java/lang/IllegalArgumentException" ∈ GW := gw_at4 237 (by decide +kernel) (by decide +kernel)
theorem wl_X11_150 : Cond.methodLink RX11 150 yX10_drawnThisYear ∈ GW := gw_at5 12 (by decide +kernel) (by decide +kernel)
theorem wn_X10_drawnThisYear : Cond.instanceMethod yX10_drawnThisYear ∈ GW := gw_at5 13 (by decide +kernel) (by decide +kernel)
theorem we_X10_drawnThisYear : Cond.selects RX10 yX10_drawnThisYear yX10_drawnThisYear ∈ GW := gw_at5 14 (by decide +kernel) (by decide +kernel)
theorem wc_X10_drawnThisYear : Cond.code yX10_drawnThisYear cX10_drawnThisYear 2 (some FieldType.int) ∈ GW := gw_at5 15 (by decide +kernel) (by decide +kernel)
theorem wl_X11_153 : Cond.methodLink RX11 153 yX10_forecastAt ∈ GW := gw_at5 16 (by decide +kernel) (by decide +kernel)
theorem wn_X10_forecastAt : Cond.instanceMethod yX10_forecastAt ∈ GW := gw_at5 17 (by decide +kernel) (by decide +kernel)
theorem we_X10_forecastAt : Cond.selects RX10 yX10_forecastAt yX10_forecastAt ∈ GW := gw_at5 18 (by decide +kernel) (by decide +kernel)
theorem wc_X10_forecastAt : Cond.code yX10_forecastAt cX10_forecastAt 2 (some FieldType.int) ∈ GW := gw_at5 19 (by decide +kernel) (by decide +kernel)
theorem wk_X10_205 : Cond.classLink RX10 205 "java/util/NoSuchElementException" ∈ GW := gw_at5 20 (by decide +kernel) (by decide +kernel)
theorem wl_X10_208 : Cond.methodLink RX10 208 yX0_labelAt ∈ GW := gw_at5 35 (by decide +kernel) (by decide +kernel)
theorem wn_X0_labelAt : Cond.instanceMethod yX0_labelAt ∈ GW := gw_at5 36 (by decide +kernel) (by decide +kernel)
theorem we_X0_labelAt : Cond.selects RX0 yX0_labelAt yX0_labelAt ∈ GW := gw_at5 37 (by decide +kernel) (by decide +kernel)
theorem wc_X0_labelAt : Cond.code yX0_labelAt cX0_labelAt 2 (some FieldType.int) ∈ GW := gw_at5 38 (by decide +kernel) (by decide +kernel)
theorem wl_X11_156 : Cond.methodLink RX11 156 yX10_weatherOf ∈ GW := gw_at5 40 (by decide +kernel) (by decide +kernel)
theorem wn_X10_weatherOf : Cond.instanceMethod yX10_weatherOf ∈ GW := gw_at5 41 (by decide +kernel) (by decide +kernel)
theorem we_X10_weatherOf : Cond.selects RX10 yX10_weatherOf yX10_weatherOf ∈ GW := gw_at5 42 (by decide +kernel) (by decide +kernel)
theorem wc_X10_weatherOf : Cond.code yX10_weatherOf cX10_weatherOf 3 (some FieldType.int) ∈ GW := gw_at5 43 (by decide +kernel) (by decide +kernel)
theorem wl_X10_192 : Cond.methodLink RX10 192 yX10_requireForecast ∈ GW := gw_at5 44 (by decide +kernel) (by decide +kernel)
theorem wn_X10_requireForecast : Cond.instanceMethod yX10_requireForecast ∈ GW := gw_at5 46 (by decide +kernel) (by decide +kernel)
theorem wc_X10_requireForecast : Cond.code yX10_requireForecast cX10_requireForecast 4 (some FieldType.int) ∈ GW := gw_at5 47 (by decide +kernel) (by decide +kernel)
theorem wl_X10_186 : Cond.methodLink RX10 186 yX0_placeOf ∈ GW := gw_at5 48 (by decide +kernel) (by decide +kernel)
theorem wl_X11_159 : Cond.methodLink RX11 159 yX10_soldOf ∈ GW := gw_at5 49 (by decide +kernel) (by decide +kernel)
theorem wn_X10_soldOf : Cond.instanceMethod yX10_soldOf ∈ GW := gw_at5 50 (by decide +kernel) (by decide +kernel)
theorem we_X10_soldOf : Cond.selects RX10 yX10_soldOf yX10_soldOf ∈ GW := gw_at5 51 (by decide +kernel) (by decide +kernel)
theorem wc_X10_soldOf : Cond.code yX10_soldOf cX10_soldOf 3 (some FieldType.int) ∈ GW := gw_at5 52 (by decide +kernel) (by decide +kernel)
theorem wl_X11_162 : Cond.methodLink RX11 162 yX10_paidOf ∈ GW := gw_at5 53 (by decide +kernel) (by decide +kernel)
theorem wn_X10_paidOf : Cond.instanceMethod yX10_paidOf ∈ GW := gw_at5 54 (by decide +kernel) (by decide +kernel)
theorem we_X10_paidOf : Cond.selects RX10 yX10_paidOf yX10_paidOf ∈ GW := gw_at5 55 (by decide +kernel) (by decide +kernel)
theorem wc_X10_paidOf : Cond.code yX10_paidOf cX10_paidOf 3 (some FieldType.int) ∈ GW := gw_at5 56 (by decide +kernel) (by decide +kernel)
theorem wl_X11_165 : Cond.methodLink RX11 165 yX10_pageOf ∈ GW := gw_at5 57 (by decide +kernel) (by decide +kernel)
theorem wn_X10_pageOf : Cond.instanceMethod yX10_pageOf ∈ GW := gw_at5 58 (by decide +kernel) (by decide +kernel)
theorem we_X10_pageOf : Cond.selects RX10 yX10_pageOf yX10_pageOf ∈ GW := gw_at5 59 (by decide +kernel) (by decide +kernel)
theorem wc_X10_pageOf : Cond.code yX10_pageOf cX10_pageOf 3 (some FieldType.int) ∈ GW := gw_at5 60 (by decide +kernel) (by decide +kernel)
theorem wl_X11_168 : Cond.methodLink RX11 168 yX10_regretAt ∈ GW := gw_at5 61 (by decide +kernel) (by decide +kernel)
theorem wn_X10_regretAt : Cond.instanceMethod yX10_regretAt ∈ GW := gw_at5 62 (by decide +kernel) (by decide +kernel)
theorem we_X10_regretAt : Cond.selects RX10 yX10_regretAt yX10_regretAt ∈ GW := gw_at5 63 (by decide +kernel) (by decide +kernel)
theorem wc_X10_regretAt : Cond.code yX10_regretAt cX10_regretAt 2 (some FieldType.int) ∈ GW := gw_at5 64 (by decide +kernel) (by decide +kernel)
theorem wl_L_119 : Cond.methodLink RL 119 yL_says ∈ GW := gw_at5 65 (by decide +kernel) (by decide +kernel)
theorem wst_L_says : Cond.static yL_says ∈ GW := gw_at5 66 (by decide +kernel) (by decide +kernel)
theorem wc_L_says : Cond.code yL_says cL_says 5 none ∈ GW := gw_at5 67 (by decide +kernel) (by decide +kernel)
theorem wl_L_8 : Cond.methodLink RL 8 yJ0_length_8abf5 ∈ GW := gw_at5 68 (by decide +kernel) (by decide +kernel)
theorem wl_L_14 : Cond.methodLink RL 14 yJ0_charAt_5068e ∈ GW := gw_at5 69 (by decide +kernel) (by decide +kernel)
theorem wl_L_18 : Cond.methodLink RL 18 yX10_appendInput ∈ GW := gw_at5 70 (by decide +kernel) (by decide +kernel)
theorem wn_X10_appendInput : Cond.instanceMethod yX10_appendInput ∈ GW := gw_at5 71 (by decide +kernel) (by decide +kernel)
theorem we_X10_appendInput : Cond.selects RX10 yX10_appendInput yX10_appendInput ∈ GW := gw_at5 72 (by decide +kernel) (by decide +kernel)
theorem wc_X10_appendInput : Cond.code yX10_appendInput cX10_appendInput 6 (some FieldType.int) ∈ GW := gw_at5 73 (by decide +kernel) (by decide +kernel)
theorem wl_X10_70 : Cond.methodLink RX10 70 yX1_hasRoomFor ∈ GW := gw_at5 74 (by decide +kernel) (by decide +kernel)
theorem wn_X1_hasRoomFor : Cond.instanceMethod yX1_hasRoomFor ∈ GW := gw_at5 75 (by decide +kernel) (by decide +kernel)
theorem we_X1_hasRoomFor : Cond.selects RX1 yX1_hasRoomFor yX1_hasRoomFor ∈ GW := gw_at5 76 (by decide +kernel) (by decide +kernel)
theorem wc_X1_hasRoomFor : Cond.code yX1_hasRoomFor cX1_hasRoomFor 2 (some FieldType.boolean) ∈ GW := gw_at5 77 (by decide +kernel) (by decide +kernel)
theorem wk_X10_74 : Cond.classLink RX10 74 "java/lang/IllegalStateException" ∈ GW := gw_at5 78 (by decide +kernel) (by decide +kernel)
theorem wl_X10_77 : Cond.methodLink RX10 77 yX1_putFour ∈ GW := gw_at5 93 (by decide +kernel) (by decide +kernel)
theorem wn_X1_putFour : Cond.instanceMethod yX1_putFour ∈ GW := gw_at5 94 (by decide +kernel) (by decide +kernel)
theorem we_X1_putFour : Cond.selects RX1 yX1_putFour yX1_putFour ∈ GW := gw_at5 95 (by decide +kernel) (by decide +kernel)
theorem wc_X1_putFour : Cond.code yX1_putFour cX1_putFour 3 none ∈ GW := gw_at5 96 (by decide +kernel) (by decide +kernel)
theorem wl_L_24 : Cond.methodLink RL 24 yX10_truncateInput ∈ GW := gw_at5 97 (by decide +kernel) (by decide +kernel)
theorem wn_X10_truncateInput : Cond.instanceMethod yX10_truncateInput ∈ GW := gw_at5 98 (by decide +kernel) (by decide +kernel)
theorem we_X10_truncateInput : Cond.selects RX10 yX10_truncateInput yX10_truncateInput ∈ GW := gw_at5 99 (by decide +kernel) (by decide +kernel)
theorem wc_X10_truncateInput : Cond.code yX10_truncateInput cX10_truncateInput 2 (some FieldType.int) ∈ GW := gw_at5 100 (by decide +kernel) (by decide +kernel)
theorem wl_L_123 : Cond.methodLink RL 123 yL_loaded ∈ GW := gw_at5 101 (by decide +kernel) (by decide +kernel)
theorem wst_L_loaded : Cond.static yL_loaded ∈ GW := gw_at5 102 (by decide +kernel) (by decide +kernel)
theorem wc_L_loaded : Cond.codeWith yL_loaded cL_loaded 2 (some FieldType.int) [(0, 4, 5, 31)] ∈ GW := gw_at5 103 (by decide +kernel) (by decide +kernel)
theorem wk_L_31 : Cond.classLink RL 31 "java/lang/IllegalArgumentException" ∈ GW := gw_at5 104 (by decide +kernel) (by decide +kernel)
theorem wl_L_28 : Cond.methodLink RL 28 yX10_load ∈ GW := gw_at5 105 (by decide +kernel) (by decide +kernel)
theorem wn_X10_load : Cond.instanceMethod yX10_load ∈ GW := gw_at5 106 (by decide +kernel) (by decide +kernel)
theorem we_X10_load : Cond.selects RX10 yX10_load yX10_load ∈ GW := gw_at5 107 (by decide +kernel) (by decide +kernel)
theorem wc_X10_load : Cond.code yX10_load cX10_load 3 (some FieldType.int) ∈ GW := gw_at5 108 (by decide +kernel) (by decide +kernel)
theorem wl_X10_88 : Cond.methodLink RX10 88 yX8_clear ∈ GW := gw_at5 109 (by decide +kernel) (by decide +kernel)
theorem wn_X8_clear : Cond.instanceMethod yX8_clear ∈ GW := gw_at5 110 (by decide +kernel) (by decide +kernel)
theorem we_X8_clear : Cond.selects RX8 yX8_clear yX8_clear ∈ GW := gw_at5 111 (by decide +kernel) (by decide +kernel)
theorem wc_X8_clear : Cond.code yX8_clear cX8_clear 2 none ∈ GW := gw_at5 112 (by decide +kernel) (by decide +kernel)
theorem wl_X10_96 : Cond.methodLink RX10 96 yX3_remember ∈ GW := gw_at5 113 (by decide +kernel) (by decide +kernel)
theorem wn_X3_remember : Cond.instanceMethod yX3_remember ∈ GW := gw_at5 114 (by decide +kernel) (by decide +kernel)
theorem we_X3_remember : Cond.selects RX3 yX3_remember yX3_remember ∈ GW := gw_at5 115 (by decide +kernel) (by decide +kernel)
theorem wc_X3_remember : Cond.code yX3_remember cX3_remember 2 none ∈ GW := gw_at5 116 (by decide +kernel) (by decide +kernel)
theorem wl_X3_23 : Cond.methodLink RX3 23 yX8_takeFrom ∈ GW := gw_at5 117 (by decide +kernel) (by decide +kernel)
theorem wl_L_115 : Cond.methodLink RL 115 yL_text ∈ GW := gw_at5 118 (by decide +kernel) (by decide +kernel)
theorem wst_L_text : Cond.static yL_text ∈ GW := gw_at5 119 (by decide +kernel) (by decide +kernel)
theorem wc_L_text : Cond.code yL_text cL_text 3 (some (FieldType.object "java/lang/String")) ∈ GW := gw_at5 120 (by decide +kernel) (by decide +kernel)
theorem wk_L_40 : Cond.classLink RL 40 RJ4 ∈ GW := gw_at5 121 (by decide +kernel) (by decide +kernel)
theorem wt_J4 : Cond.instantiable RJ4 4 ∈ GW := gw_at5 122 (by decide +kernel) (by decide +kernel)
theorem wl_L_44 : Cond.methodLink RL 44 yJ4_init_a7421 ∈ GW := gw_at5 124 (by decide +kernel) (by decide +kernel)
theorem wn_J4_init_a7421 : Cond.instanceMethod yJ4_init_a7421 ∈ GW := gw_at5 125 (by decide +kernel) (by decide +kernel)
theorem wc_J4_init_a7421 : Cond.code yJ4_init_a7421 cJ4_init_a7421 2 none ∈ GW := gw_at5 126 (by decide +kernel) (by decide +kernel)
theorem wl_J4_7 : Cond.methodLink RJ4 7 yJ5_init_a7421 ∈ GW := gw_at5 127 (by decide +kernel) (by decide +kernel)
theorem wn_J5_init_a7421 : Cond.instanceMethod yJ5_init_a7421 ∈ GW := gw_at5 128 (by decide +kernel) (by decide +kernel)
theorem wc_J5_init_a7421 : Cond.code yJ5_init_a7421 cJ5_init_a7421 5 none ∈ GW := gw_at5 129 (by decide +kernel) (by decide +kernel)
theorem wl_J5_3 : Cond.methodLink RJ5 3 objectInit ∈ GW := gw_at5 130 (by decide +kernel) (by decide +kernel)
theorem wl_J5_32 : Cond.methodLink RJ5 32 yJ0_length_8abf5 ∈ GW := gw_at5 131 (by decide +kernel) (by decide +kernel)
theorem wx_J5_38 : Cond.constant RJ5 38 (2147483631 : Int32) ∈ GW := gw_at5 132 (by decide +kernel) (by decide +kernel)
theorem wx_J5_39 : Cond.constant RJ5 39 (2147483647 : Int32) ∈ GW := gw_at5 133 (by decide +kernel) (by decide +kernel)
theorem wl_J5_40 : Cond.methodLink RJ5 40 yJ0_coder_7d493 ∈ GW := gw_at5 134 (by decide +kernel) (by decide +kernel)
theorem wl_J5_26 : Cond.methodLink RJ5 26 yJ2_newBytesFor_77867 ∈ GW := gw_at5 135 (by decide +kernel) (by decide +kernel)
theorem wst_J2_newBytesFor_77867 : Cond.static yJ2_newBytesFor_77867 ∈ GW := gw_at5 136 (by decide +kernel) (by decide +kernel)
theorem wc_J2_newBytesFor_77867 : Cond.code yJ2_newBytesFor_77867 cJ2_newBytesFor_77867 1 (some (FieldType.array FieldType.byte)) ∈ GW := gw_at5 137 (by decide +kernel) (by decide +kernel)
theorem wl_J2_11 : Cond.methodLink RJ2 11 yJ2_newBytesLength_0f7a4 ∈ GW := gw_at5 138 (by decide +kernel) (by decide +kernel)
theorem wst_J2_newBytesLength_0f7a4 : Cond.static yJ2_newBytesLength_0f7a4 ∈ GW := gw_at5 139 (by decide +kernel) (by decide +kernel)
theorem wc_J2_newBytesLength_0f7a4 : Cond.code yJ2_newBytesLength_0f7a4 cJ2_newBytesLength_0f7a4 1 (some FieldType.int) ∈ GW := gw_at5 140 (by decide +kernel) (by decide +kernel)
theorem wx_J2_20 : Cond.constant RJ2 20 (1073741823 : Int32) ∈ GW := gw_at5 141 (by decide +kernel) (by decide +kernel)
theorem wl_J5_43 : Cond.methodLink RJ5 43 yJ5_append_cf1ce ∈ GW := gw_at5 142 (by decide +kernel) (by decide +kernel)
theorem wn_J5_append_cf1ce : Cond.instanceMethod yJ5_append_cf1ce ∈ GW := gw_at5 143 (by decide +kernel) (by decide +kernel)
theorem we_J5_append_cf1ce : Cond.selects RJ4 yJ5_append_cf1ce yJ4_append_cf1ce ∈ GW := gw_at5 145 (by decide +kernel) (by decide +kernel)
theorem wn_J4_append_cf1ce : Cond.instanceMethod yJ4_append_cf1ce ∈ GW := gw_at5 146 (by decide +kernel) (by decide +kernel)
theorem wc_J4_append_cf1ce : Cond.code yJ4_append_cf1ce cJ4_append_cf1ce 2 (some (FieldType.object "java/lang/AbstractStringBuilder")) ∈ GW := gw_at5 147 (by decide +kernel) (by decide +kernel)
theorem wl_J4_23 : Cond.methodLink RJ4 23 yJ4_append_15ec4 ∈ GW := gw_at5 148 (by decide +kernel) (by decide +kernel)
theorem wn_J4_append_15ec4 : Cond.instanceMethod yJ4_append_15ec4 ∈ GW := gw_at5 149 (by decide +kernel) (by decide +kernel)
theorem we_J4_append_15ec4 : Cond.selects RJ4 yJ4_append_15ec4 yJ4_append_15ec4 ∈ GW := gw_at5 150 (by decide +kernel) (by decide +kernel)
theorem wc_J4_append_15ec4 : Cond.code yJ4_append_15ec4 cJ4_append_15ec4 2 (some (FieldType.object "java/lang/StringBuilder")) ∈ GW := gw_at5 151 (by decide +kernel) (by decide +kernel)
theorem wl_J4_29 : Cond.methodLink RJ4 29 yJ5_append_cf1ce ∈ GW := gw_at5 152 (by decide +kernel) (by decide +kernel)
theorem wc_J5_append_cf1ce : Cond.code yJ5_append_cf1ce cJ5_append_cf1ce 3 (some (FieldType.object "java/lang/AbstractStringBuilder")) ∈ GW := gw_at5 154 (by decide +kernel) (by decide +kernel)
theorem wl_J5_204 : Cond.methodLink RJ5 204 yJ5_appendNull_278bc ∈ GW := gw_at5 155 (by decide +kernel) (by decide +kernel)
theorem wn_J5_appendNull_278bc : Cond.instanceMethod yJ5_appendNull_278bc ∈ GW := gw_at5 157 (by decide +kernel) (by decide +kernel)
theorem wc_J5_appendNull_278bc : Cond.code yJ5_appendNull_278bc cJ5_appendNull_278bc 3 (some (FieldType.object "java/lang/AbstractStringBuilder")) ∈ GW := gw_at5 158 (by decide +kernel) (by decide +kernel)
theorem wl_J5_100 : Cond.methodLink RJ5 100 yJ5_ensureCapacityInternal_d00df ∈ GW := gw_at5 159 (by decide +kernel) (by decide +kernel)
theorem wn_J5_ensureCapacityInternal_d00df : Cond.instanceMethod yJ5_ensureCapacityInternal_d00df ∈ GW := gw_at5 161 (by decide +kernel) (by decide +kernel)
theorem wc_J5_ensureCapacityInternal_d00df : Cond.code yJ5_ensureCapacityInternal_d00df cJ5_ensureCapacityInternal_d00df 3 none ∈ GW := gw_at5 162 (by decide +kernel) (by decide +kernel)
theorem wl_J5_104 : Cond.methodLink RJ5 104 yJ5_newCapacity_0f7a4 ∈ GW := gw_at5 163 (by decide +kernel) (by decide +kernel)
theorem wn_J5_newCapacity_0f7a4 : Cond.instanceMethod yJ5_newCapacity_0f7a4 ∈ GW := gw_at5 165 (by decide +kernel) (by decide +kernel)
theorem wc_J5_newCapacity_0f7a4 : Cond.code yJ5_newCapacity_0f7a4 cJ5_newCapacity_0f7a4 6 (some FieldType.int) ∈ GW := gw_at5 166 (by decide +kernel) (by decide +kernel)
theorem wl_J5_114 : Cond.methodLink RJ5 114 yJ8_newLength_cabcc ∈ GW := gw_at5 167 (by decide +kernel) (by decide +kernel)
theorem wst_J8_newLength_cabcc : Cond.static yJ8_newLength_cabcc ∈ GW := gw_at5 168 (by decide +kernel) (by decide +kernel)
theorem wc_J8_newLength_cabcc : Cond.code yJ8_newLength_cabcc cJ8_newLength_cabcc 4 (some FieldType.int) ∈ GW := gw_at5 169 (by decide +kernel) (by decide +kernel)
theorem wl_J8_194 : Cond.methodLink RJ8 194 Lib.Math.max.name ∈ GW := gw_at5 170 (by decide +kernel) (by decide +kernel)
theorem wx_J8_200 : Cond.constant RJ8 200 (2147483639 : Int32) ∈ GW := gw_at5 171 (by decide +kernel) (by decide +kernel)
theorem wl_J8_201 : Cond.methodLink RJ8 201 yJ8_hugeLength_7cf53 ∈ GW := gw_at5 172 (by decide +kernel) (by decide +kernel)
theorem wst_J8_hugeLength_7cf53 : Cond.static yJ8_hugeLength_7cf53 ∈ GW := gw_at5 173 (by decide +kernel) (by decide +kernel)
theorem wc_J8_hugeLength_7cf53 : Cond.code yJ8_hugeLength_7cf53 cJ8_hugeLength_7cf53 3 (some FieldType.int) ∈ GW := gw_at5 174 (by decide +kernel) (by decide +kernel)
theorem wl_J5_108 : Cond.methodLink RJ5 108 yJ7_copyOf_9075b ∈ GW := gw_at5 175 (by decide +kernel) (by decide +kernel)
theorem wst_J7_copyOf_9075b : Cond.static yJ7_copyOf_9075b ∈ GW := gw_at5 176 (by decide +kernel) (by decide +kernel)
theorem wc_J7_copyOf_9075b : Cond.code yJ7_copyOf_9075b cJ7_copyOf_9075b 3 (some (FieldType.array FieldType.byte)) ∈ GW := gw_at5 177 (by decide +kernel) (by decide +kernel)
theorem wk_J7_311 : Cond.classLink RJ7 311 "[B" ∈ GW := gw_at5 184 (by decide +kernel) (by decide +kernel)
theorem wl_J7_304 : Cond.methodLink RJ7 304 Lib.Math.min.name ∈ GW := gw_at5 185 (by decide +kernel) (by decide +kernel)
theorem wl_J7_150 : Cond.methodLink RJ7 150 arraycopyName ∈ GW := gw_at5 186 (by decide +kernel) (by decide +kernel)
theorem wl_J5_83 : Cond.methodLink RJ5 83 yJ5_isLatin1_aae02 ∈ GW := gw_at5 187 (by decide +kernel) (by decide +kernel)
theorem wn_J5_isLatin1_aae02 : Cond.instanceMethod yJ5_isLatin1_aae02 ∈ GW := gw_at5 188 (by decide +kernel) (by decide +kernel)
theorem we_J5_isLatin1_aae02 : Cond.selects RJ4 yJ5_isLatin1_aae02 yJ5_isLatin1_aae02 ∈ GW := gw_at5 190 (by decide +kernel) (by decide +kernel)
theorem wc_J5_isLatin1_aae02 : Cond.code yJ5_isLatin1_aae02 cJ5_isLatin1_aae02 1 (some FieldType.boolean) ∈ GW := gw_at5 191 (by decide +kernel) (by decide +kernel)
theorem wf_J5_18 : Cond.fieldLink RJ5 18 "java/lang/String" "COMPACT_STRINGS" "Z" ∈ GW := gw_at5 192 (by decide +kernel) (by decide +kernel)
theorem wl_J5_226 : Cond.methodLink RJ5 226 yJ2_putCharsAt_cd4e5 ∈ GW := gw_at5 193 (by decide +kernel) (by decide +kernel)
theorem wst_J2_putCharsAt_cd4e5 : Cond.static yJ2_putCharsAt_cd4e5 ∈ GW := gw_at5 194 (by decide +kernel) (by decide +kernel)
theorem wc_J2_putCharsAt_cd4e5 : Cond.code yJ2_putCharsAt_cd4e5 cJ2_putCharsAt_cd4e5 7 (some FieldType.int) ∈ GW := gw_at5 195 (by decide +kernel) (by decide +kernel)
theorem wl_J2_96 : Cond.methodLink RJ2 96 yJ2_checkBoundsBeginEnd_d044e ∈ GW := gw_at5 196 (by decide +kernel) (by decide +kernel)
theorem wst_J2_checkBoundsBeginEnd_d044e : Cond.static yJ2_checkBoundsBeginEnd_d044e ∈ GW := gw_at5 197 (by decide +kernel) (by decide +kernel)
theorem wc_J2_checkBoundsBeginEnd_d044e : Cond.code yJ2_checkBoundsBeginEnd_d044e cJ2_checkBoundsBeginEnd_d044e 3 none ∈ GW := gw_at5 198 (by decide +kernel) (by decide +kernel)
theorem wl_J2_241 : Cond.methodLink RJ2 241 yJ0_checkBoundsBeginEnd_23922 ∈ GW := gw_at5 199 (by decide +kernel) (by decide +kernel)
theorem wst_J0_checkBoundsBeginEnd_23922 : Cond.static yJ0_checkBoundsBeginEnd_23922 ∈ GW := gw_at5 200 (by decide +kernel) (by decide +kernel)
theorem wc_J0_checkBoundsBeginEnd_23922 : Cond.code yJ0_checkBoundsBeginEnd_23922 cJ0_checkBoundsBeginEnd_23922 3 none ∈ GW := gw_at5 201 (by decide +kernel) (by decide +kernel)
theorem wl_J0_1062 : Cond.methodLink RJ0 1062 yJ3_checkFromToIndex_8c36e ∈ GW := gw_at5 202 (by decide +kernel) (by decide +kernel)
theorem wst_J3_checkFromToIndex_8c36e : Cond.static yJ3_checkFromToIndex_8c36e ∈ GW := gw_at5 203 (by decide +kernel) (by decide +kernel)
theorem wc_J3_checkFromToIndex_8c36e : Cond.code yJ3_checkFromToIndex_8c36e cJ3_checkFromToIndex_8c36e 4 (some FieldType.int) ∈ GW := gw_at5 204 (by decide +kernel) (by decide +kernel)
theorem wl_J2_111 : Cond.methodLink RJ2 111 yJ2_putChar_b72d1 ∈ GW := gw_at5 205 (by decide +kernel) (by decide +kernel)
theorem wst_J2_putChar_b72d1 : Cond.static yJ2_putChar_b72d1 ∈ GW := gw_at5 206 (by decide +kernel) (by decide +kernel)
theorem wc_J2_putChar_b72d1 : Cond.code yJ2_putChar_b72d1 cJ2_putChar_b72d1 3 none ∈ GW := gw_at5 207 (by decide +kernel) (by decide +kernel)
theorem wl_J5_208 : Cond.methodLink RJ5 208 yJ5_putStringAt_47b60 ∈ GW := gw_at5 208 (by decide +kernel) (by decide +kernel)
theorem wn_J5_putStringAt_47b60 : Cond.instanceMethod yJ5_putStringAt_47b60 ∈ GW := gw_at5 210 (by decide +kernel) (by decide +kernel)
theorem wc_J5_putStringAt_47b60 : Cond.code yJ5_putStringAt_47b60 cJ5_putStringAt_47b60 3 none ∈ GW := gw_at5 211 (by decide +kernel) (by decide +kernel)
theorem wl_J5_397 : Cond.methodLink RJ5 397 yJ5_inflateIfNeededFor_a7421 ∈ GW := gw_at5 212 (by decide +kernel) (by decide +kernel)
theorem wn_J5_inflateIfNeededFor_a7421 : Cond.instanceMethod yJ5_inflateIfNeededFor_a7421 ∈ GW := gw_at5 214 (by decide +kernel) (by decide +kernel)
theorem wc_J5_inflateIfNeededFor_a7421 : Cond.code yJ5_inflateIfNeededFor_a7421 cJ5_inflateIfNeededFor_a7421 2 none ∈ GW := gw_at5 215 (by decide +kernel) (by decide +kernel)
theorem wl_J5_195 : Cond.methodLink RJ5 195 yJ5_inflate_da8c8 ∈ GW := gw_at5 216 (by decide +kernel) (by decide +kernel)
theorem wn_J5_inflate_da8c8 : Cond.instanceMethod yJ5_inflate_da8c8 ∈ GW := gw_at5 218 (by decide +kernel) (by decide +kernel)
theorem wc_J5_inflate_da8c8 : Cond.code yJ5_inflate_da8c8 cJ5_inflate_da8c8 2 none ∈ GW := gw_at5 219 (by decide +kernel) (by decide +kernel)
theorem wl_J5_125 : Cond.methodLink RJ5 125 yJ1_inflate_0e8fd ∈ GW := gw_at5 220 (by decide +kernel) (by decide +kernel)
theorem wst_J1_inflate_0e8fd : Cond.static yJ1_inflate_0e8fd ∈ GW := gw_at5 221 (by decide +kernel) (by decide +kernel)
theorem wc_J1_inflate_0e8fd : Cond.code yJ1_inflate_0e8fd cJ1_inflate_0e8fd 5 none ∈ GW := gw_at5 222 (by decide +kernel) (by decide +kernel)
theorem wl_J1_240 : Cond.methodLink RJ1 240 yJ2_inflate_0e8fd ∈ GW := gw_at5 223 (by decide +kernel) (by decide +kernel)
theorem wst_J2_inflate_0e8fd : Cond.static yJ2_inflate_0e8fd ∈ GW := gw_at5 224 (by decide +kernel) (by decide +kernel)
theorem wc_J2_inflate_0e8fd : Cond.code yJ2_inflate_0e8fd cJ2_inflate_0e8fd 6 none ∈ GW := gw_at5 225 (by decide +kernel) (by decide +kernel)
theorem wl_J2_173 : Cond.methodLink RJ2 173 yJ2_checkBoundsOffCount_d044e ∈ GW := gw_at5 226 (by decide +kernel) (by decide +kernel)
theorem wst_J2_checkBoundsOffCount_d044e : Cond.static yJ2_checkBoundsOffCount_d044e ∈ GW := gw_at5 227 (by decide +kernel) (by decide +kernel)
theorem wc_J2_checkBoundsOffCount_d044e : Cond.code yJ2_checkBoundsOffCount_d044e cJ2_checkBoundsOffCount_d044e 3 none ∈ GW := gw_at5 228 (by decide +kernel) (by decide +kernel)
theorem wl_J2_419 : Cond.methodLink RJ2 419 yJ0_checkBoundsOffCount_cabcc ∈ GW := gw_at5 229 (by decide +kernel) (by decide +kernel)
theorem wst_J0_checkBoundsOffCount_cabcc : Cond.static yJ0_checkBoundsOffCount_cabcc ∈ GW := gw_at5 230 (by decide +kernel) (by decide +kernel)
theorem wc_J0_checkBoundsOffCount_cabcc : Cond.code yJ0_checkBoundsOffCount_cabcc cJ0_checkBoundsOffCount_cabcc 3 (some FieldType.int) ∈ GW := gw_at5 231 (by decide +kernel) (by decide +kernel)
theorem wl_J0_1065 : Cond.methodLink RJ0 1065 yJ3_checkFromIndexSize_8c36e ∈ GW := gw_at5 232 (by decide +kernel) (by decide +kernel)
theorem wst_J3_checkFromIndexSize_8c36e : Cond.static yJ3_checkFromIndexSize_8c36e ∈ GW := gw_at5 233 (by decide +kernel) (by decide +kernel)
theorem wc_J3_checkFromIndexSize_8c36e : Cond.code yJ3_checkFromIndexSize_8c36e cJ3_checkFromIndexSize_8c36e 4 (some FieldType.int) ∈ GW := gw_at5 234 (by decide +kernel) (by decide +kernel)
theorem wl_J5_399 : Cond.methodLink RJ5 399 yJ0_getBytes_840e7 ∈ GW := gw_at5 235 (by decide +kernel) (by decide +kernel)
theorem wn_J0_getBytes_840e7 : Cond.instanceMethod yJ0_getBytes_840e7 ∈ GW := gw_at5 236 (by decide +kernel) (by decide +kernel)
theorem we_J0_getBytes_840e7 : Cond.selects RJ0 yJ0_getBytes_840e7 yJ0_getBytes_840e7 ∈ GW := gw_at5 237 (by decide +kernel) (by decide +kernel)
theorem wc_J0_getBytes_840e7 : Cond.code yJ0_getBytes_840e7 cJ0_getBytes_840e7 4 none ∈ GW := gw_at5 238 (by decide +kernel) (by decide +kernel)
theorem wl_J0_212 : Cond.methodLink RJ0 212 arraycopyName ∈ GW := gw_at5 239 (by decide +kernel) (by decide +kernel)
theorem wl_J0_106 : Cond.methodLink RJ0 106 yJ1_inflate_0e8fd ∈ GW := gw_at6 0 (by decide +kernel) (by decide +kernel)
theorem wf_J5_15 : Cond.fieldLink RJ5 15 "java/lang/AbstractStringBuilder" "value" "[B" ∈ GW := gw_at6 1 (by decide +kernel) (by decide +kernel)
theorem wf_J5_22 : Cond.fieldLink RJ5 22 "java/lang/AbstractStringBuilder" "coder" "B" ∈ GW := gw_at6 2 (by decide +kernel) (by decide +kernel)
theorem wf_J0_1048 : Cond.fieldLink RJ0 1048 "java/lang/AbstractStringBuilder" "maybeLatin1" "Z" ∈ GW := gw_at6 3 (by decide +kernel) (by decide +kernel)
theorem wf_J5_79 : Cond.fieldLink RJ5 79 "java/lang/AbstractStringBuilder" "count" "I" ∈ GW := gw_at6 4 (by decide +kernel) (by decide +kernel)
theorem wl_L_47 : Cond.methodLink RL 47 yJ4_append_bf812 ∈ GW := gw_at6 13 (by decide +kernel) (by decide +kernel)
theorem wn_J4_append_bf812 : Cond.instanceMethod yJ4_append_bf812 ∈ GW := gw_at6 14 (by decide +kernel) (by decide +kernel)
theorem we_J4_append_bf812 : Cond.selects RJ4 yJ4_append_bf812 yJ4_append_bf812 ∈ GW := gw_at6 15 (by decide +kernel) (by decide +kernel)
theorem wc_J4_append_bf812 : Cond.code yJ4_append_bf812 cJ4_append_bf812 2 (some (FieldType.object "java/lang/StringBuilder")) ∈ GW := gw_at6 16 (by decide +kernel) (by decide +kernel)
theorem wl_J4_53 : Cond.methodLink RJ4 53 yJ5_append_c97b9 ∈ GW := gw_at6 17 (by decide +kernel) (by decide +kernel)
theorem wn_J5_append_c97b9 : Cond.instanceMethod yJ5_append_c97b9 ∈ GW := gw_at6 18 (by decide +kernel) (by decide +kernel)
theorem wc_J5_append_c97b9 : Cond.code yJ5_append_c97b9 cJ5_append_c97b9 4 (some (FieldType.object "java/lang/AbstractStringBuilder")) ∈ GW := gw_at6 19 (by decide +kernel) (by decide +kernel)
theorem wl_J5_245 : Cond.methodLink RJ5 245 yJ6_stringSize_0f7a4 ∈ GW := gw_at6 20 (by decide +kernel) (by decide +kernel)
theorem wst_J6_stringSize_0f7a4 : Cond.static yJ6_stringSize_0f7a4 ∈ GW := gw_at6 21 (by decide +kernel) (by decide +kernel)
theorem wc_J6_stringSize_0f7a4 : Cond.code yJ6_stringSize_0f7a4 cJ6_stringSize_0f7a4 4 (some FieldType.int) ∈ GW := gw_at6 22 (by decide +kernel) (by decide +kernel)
theorem wl_J5_248 : Cond.methodLink RJ5 248 yJ6_getChars_ba4f3 ∈ GW := gw_at6 23 (by decide +kernel) (by decide +kernel)
theorem wst_J6_getChars_ba4f3 : Cond.static yJ6_getChars_ba4f3 ∈ GW := gw_at6 24 (by decide +kernel) (by decide +kernel)
theorem wc_J6_getChars_ba4f3 : Cond.code yJ6_getChars_ba4f3 cJ6_getChars_ba4f3 7 (some FieldType.int) ∈ GW := gw_at6 25 (by decide +kernel) (by decide +kernel)
theorem wf_J6_83 : Cond.fieldLink RJ6 83 "java/lang/Integer" "DigitOnes" "[B" ∈ GW := gw_at6 26 (by decide +kernel) (by decide +kernel)
theorem wf_J6_87 : Cond.fieldLink RJ6 87 "java/lang/Integer" "DigitTens" "[B" ∈ GW := gw_at6 28 (by decide +kernel) (by decide +kernel)
theorem wl_J5_251 : Cond.methodLink RJ5 251 yJ2_getChars_46870 ∈ GW := gw_at6 30 (by decide +kernel) (by decide +kernel)
theorem wst_J2_getChars_46870 : Cond.static yJ2_getChars_46870 ∈ GW := gw_at6 31 (by decide +kernel) (by decide +kernel)
theorem wc_J2_getChars_46870 : Cond.code yJ2_getChars_46870 cJ2_getChars_46870 5 (some FieldType.int) ∈ GW := gw_at6 32 (by decide +kernel) (by decide +kernel)
theorem wl_J2_393 : Cond.methodLink RJ2 393 yJ2_getChars_ba4f3 ∈ GW := gw_at6 33 (by decide +kernel) (by decide +kernel)
theorem wst_J2_getChars_ba4f3 : Cond.static yJ2_getChars_ba4f3 ∈ GW := gw_at6 34 (by decide +kernel) (by decide +kernel)
theorem wc_J2_getChars_ba4f3 : Cond.code yJ2_getChars_ba4f3 cJ2_getChars_ba4f3 7 (some FieldType.int) ∈ GW := gw_at6 35 (by decide +kernel) (by decide +kernel)
theorem wf_J2_403 : Cond.fieldLink RJ2 403 "java/lang/Integer" "DigitOnes" "[B" ∈ GW := gw_at6 36 (by decide +kernel) (by decide +kernel)
theorem wf_J2_407 : Cond.fieldLink RJ2 407 "java/lang/Integer" "DigitTens" "[B" ∈ GW := gw_at6 37 (by decide +kernel) (by decide +kernel)
theorem wl_L_51 : Cond.methodLink RL 51 yJ4_append_cf468 ∈ GW := gw_at6 38 (by decide +kernel) (by decide +kernel)
theorem wn_J4_append_cf468 : Cond.instanceMethod yJ4_append_cf468 ∈ GW := gw_at6 39 (by decide +kernel) (by decide +kernel)
theorem we_J4_append_cf468 : Cond.selects RJ4 yJ4_append_cf468 yJ4_append_cf468 ∈ GW := gw_at6 40 (by decide +kernel) (by decide +kernel)
theorem wc_J4_append_cf468 : Cond.code yJ4_append_cf468 cJ4_append_cf468 2 (some (FieldType.object "java/lang/StringBuilder")) ∈ GW := gw_at6 41 (by decide +kernel) (by decide +kernel)
theorem wl_J4_50 : Cond.methodLink RJ4 50 yJ5_append_3fe6f ∈ GW := gw_at6 42 (by decide +kernel) (by decide +kernel)
theorem wn_J5_append_3fe6f : Cond.instanceMethod yJ5_append_3fe6f ∈ GW := gw_at6 43 (by decide +kernel) (by decide +kernel)
theorem wc_J5_append_3fe6f : Cond.code yJ5_append_3fe6f cJ5_append_3fe6f 2 (some (FieldType.object "java/lang/AbstractStringBuilder")) ∈ GW := gw_at6 44 (by decide +kernel) (by decide +kernel)
theorem wl_J5_191 : Cond.methodLink RJ5 191 yJ1_canEncode_fc78d ∈ GW := gw_at6 45 (by decide +kernel) (by decide +kernel)
theorem wst_J1_canEncode_fc78d : Cond.static yJ1_canEncode_fc78d ∈ GW := gw_at6 46 (by decide +kernel) (by decide +kernel)
theorem wc_J1_canEncode_fc78d : Cond.code yJ1_canEncode_fc78d cJ1_canEncode_fc78d 1 (some FieldType.boolean) ∈ GW := gw_at6 47 (by decide +kernel) (by decide +kernel)
theorem wl_J5_197 : Cond.methodLink RJ5 197 yJ2_putCharSB_b72d1 ∈ GW := gw_at6 48 (by decide +kernel) (by decide +kernel)
theorem wst_J2_putCharSB_b72d1 : Cond.static yJ2_putCharSB_b72d1 ∈ GW := gw_at6 49 (by decide +kernel) (by decide +kernel)
theorem wc_J2_putCharSB_b72d1 : Cond.code yJ2_putCharSB_b72d1 cJ2_putCharSB_b72d1 3 none ∈ GW := gw_at6 50 (by decide +kernel) (by decide +kernel)
theorem wl_L_54 : Cond.methodLink RL 54 yL_odds ∈ GW := gw_at6 51 (by decide +kernel) (by decide +kernel)
theorem wl_L_59 : Cond.methodLink RL 59 yJ4_append_15ec4 ∈ GW := gw_at6 53 (by decide +kernel) (by decide +kernel)
theorem wl_L_62 : Cond.methodLink RL 62 yL_people ∈ GW := gw_at6 54 (by decide +kernel) (by decide +kernel)
theorem wl_L_65 : Cond.methodLink RL 65 yL_trust ∈ GW := gw_at6 55 (by decide +kernel) (by decide +kernel)
theorem wl_L_70 : Cond.methodLink RL 70 yL_place ∈ GW := gw_at6 57 (by decide +kernel) (by decide +kernel)
theorem wl_L_73 : Cond.methodLink RL 73 yL_period ∈ GW := gw_at6 58 (by decide +kernel) (by decide +kernel)
theorem wl_L_76 : Cond.methodLink RL 76 yL_stock ∈ GW := gw_at6 59 (by decide +kernel) (by decide +kernel)
theorem wl_L_79 : Cond.methodLink RL 79 yL_price ∈ GW := gw_at6 60 (by decide +kernel) (by decide +kernel)
theorem wl_L_82 : Cond.methodLink RL 82 yJ4_toString_0e30d ∈ GW := gw_at6 61 (by decide +kernel) (by decide +kernel)
theorem wn_J4_toString_0e30d : Cond.instanceMethod yJ4_toString_0e30d ∈ GW := gw_at6 62 (by decide +kernel) (by decide +kernel)
theorem we_J4_toString_0e30d : Cond.selects RJ4 yJ4_toString_0e30d yJ4_toString_0e30d ∈ GW := gw_at6 63 (by decide +kernel) (by decide +kernel)
theorem wc_J4_toString_0e30d : Cond.code yJ4_toString_0e30d cJ4_toString_0e30d 1 (some (FieldType.object "java/lang/String")) ∈ GW := gw_at6 64 (by decide +kernel) (by decide +kernel)
theorem wk_J4_18 : Cond.classLink RJ4 18 RJ0 ∈ GW := gw_at6 65 (by decide +kernel) (by decide +kernel)
theorem wt_J0 : Cond.instantiable RJ0 4 ∈ GW := gw_at6 66 (by decide +kernel) (by decide +kernel)
theorem wl_J4_137 : Cond.methodLink RJ4 137 yJ0_init_81219 ∈ GW := gw_at6 67 (by decide +kernel) (by decide +kernel)
theorem wn_J0_init_81219 : Cond.instanceMethod yJ0_init_81219 ∈ GW := gw_at6 68 (by decide +kernel) (by decide +kernel)
theorem wc_J0_init_81219 : Cond.code yJ0_init_81219 cJ0_init_81219 2 none ∈ GW := gw_at6 69 (by decide +kernel) (by decide +kernel)
theorem wl_J0_489 : Cond.methodLink RJ0 489 yJ0_init_db425 ∈ GW := gw_at6 70 (by decide +kernel) (by decide +kernel)
theorem wn_J0_init_db425 : Cond.instanceMethod yJ0_init_db425 ∈ GW := gw_at6 71 (by decide +kernel) (by decide +kernel)
theorem wc_J0_init_db425 : Cond.code yJ0_init_db425 cJ0_init_db425 5 none ∈ GW := gw_at6 72 (by decide +kernel) (by decide +kernel)
theorem wl_J0_1 : Cond.methodLink RJ0 1 objectInit ∈ GW := gw_at6 73 (by decide +kernel) (by decide +kernel)
theorem wl_J0_552 : Cond.methodLink RJ0 552 yJ5_getValue_6d5f1 ∈ GW := gw_at6 74 (by decide +kernel) (by decide +kernel)
theorem wn_J5_getValue_6d5f1 : Cond.instanceMethod yJ5_getValue_6d5f1 ∈ GW := gw_at6 75 (by decide +kernel) (by decide +kernel)
theorem we_J5_getValue_6d5f1 : Cond.selects RJ4 yJ5_getValue_6d5f1 yJ5_getValue_6d5f1 ∈ GW := gw_at6 77 (by decide +kernel) (by decide +kernel)
theorem wc_J5_getValue_6d5f1 : Cond.code yJ5_getValue_6d5f1 cJ5_getValue_6d5f1 1 (some (FieldType.array FieldType.byte)) ∈ GW := gw_at6 78 (by decide +kernel) (by decide +kernel)
theorem wl_J0_549 : Cond.methodLink RJ0 549 yJ5_length_8abf5 ∈ GW := gw_at6 79 (by decide +kernel) (by decide +kernel)
theorem wn_J5_length_8abf5 : Cond.instanceMethod yJ5_length_8abf5 ∈ GW := gw_at6 80 (by decide +kernel) (by decide +kernel)
theorem we_J5_length_8abf5 : Cond.selects RJ4 yJ5_length_8abf5 yJ4_length_8abf5 ∈ GW := gw_at6 82 (by decide +kernel) (by decide +kernel)
theorem wn_J4_length_8abf5 : Cond.instanceMethod yJ4_length_8abf5 ∈ GW := gw_at6 83 (by decide +kernel) (by decide +kernel)
theorem wc_J4_length_8abf5 : Cond.code yJ4_length_8abf5 cJ4_length_8abf5 1 (some FieldType.int) ∈ GW := gw_at6 84 (by decide +kernel) (by decide +kernel)
theorem wl_J4_343 : Cond.methodLink RJ4 343 yJ5_length_8abf5 ∈ GW := gw_at6 85 (by decide +kernel) (by decide +kernel)
theorem wc_J5_length_8abf5 : Cond.code yJ5_length_8abf5 cJ5_length_8abf5 1 (some FieldType.int) ∈ GW := gw_at6 86 (by decide +kernel) (by decide +kernel)
theorem wl_J0_1047 : Cond.methodLink RJ0 1047 yJ5_isLatin1_aae02 ∈ GW := gw_at6 87 (by decide +kernel) (by decide +kernel)
theorem wl_J0_54 : Cond.methodLink RJ0 54 yJ7_copyOfRange_39247 ∈ GW := gw_at6 88 (by decide +kernel) (by decide +kernel)
theorem wst_J7_copyOfRange_39247 : Cond.static yJ7_copyOfRange_39247 ∈ GW := gw_at6 89 (by decide +kernel) (by decide +kernel)
theorem wc_J7_copyOfRange_39247 : Cond.code yJ7_copyOfRange_39247 cJ7_copyOfRange_39247 3 (some (FieldType.array FieldType.byte)) ∈ GW := gw_at6 90 (by decide +kernel) (by decide +kernel)
theorem wl_J7_339 : Cond.methodLink RJ7 339 yJ7_copyOfRangeByte_39247 ∈ GW := gw_at6 91 (by decide +kernel) (by decide +kernel)
theorem wst_J7_copyOfRangeByte_39247 : Cond.static yJ7_copyOfRangeByte_39247 ∈ GW := gw_at6 92 (by decide +kernel) (by decide +kernel)
theorem wc_J7_copyOfRangeByte_39247 : Cond.code yJ7_copyOfRangeByte_39247 cJ7_copyOfRangeByte_39247 5 (some (FieldType.array FieldType.byte)) ∈ GW := gw_at6 93 (by decide +kernel) (by decide +kernel)
theorem wl_J7_343 : Cond.methodLink RJ7 343 yJ7_checkLength_df160 ∈ GW := gw_at6 94 (by decide +kernel) (by decide +kernel)
theorem wst_J7_checkLength_df160 : Cond.static yJ7_checkLength_df160 ∈ GW := gw_at6 95 (by decide +kernel) (by decide +kernel)
theorem wc_J7_checkLength_df160 : Cond.code yJ7_checkLength_df160 cJ7_checkLength_df160 2 none ∈ GW := gw_at6 96 (by decide +kernel) (by decide +kernel)
theorem wk_J7_43 : Cond.classLink RJ7 43 "java/lang/IllegalArgumentException" ∈ GW := gw_at6 97 (by decide +kernel) (by decide +kernel)
theorem wk_J7_45 : Cond.classLink RJ7 45 RJ4 ∈ GW := gw_at6 98 (by decide +kernel) (by decide +kernel)
theorem wl_J7_47 : Cond.methodLink RJ7 47 yJ4_init_da8c8 ∈ GW := gw_at6 99 (by decide +kernel) (by decide +kernel)
theorem wn_J4_init_da8c8 : Cond.instanceMethod yJ4_init_da8c8 ∈ GW := gw_at6 100 (by decide +kernel) (by decide +kernel)
theorem wc_J4_init_da8c8 : Cond.code yJ4_init_da8c8 cJ4_init_da8c8 1 none ∈ GW := gw_at6 101 (by decide +kernel) (by decide +kernel)
theorem wl_J4_1 : Cond.methodLink RJ4 1 yJ5_init_d00df ∈ GW := gw_at6 102 (by decide +kernel) (by decide +kernel)
theorem wn_J5_init_d00df : Cond.instanceMethod yJ5_init_d00df ∈ GW := gw_at6 103 (by decide +kernel) (by decide +kernel)
theorem wc_J5_init_d00df : Cond.code yJ5_init_d00df cJ5_init_d00df 2 none ∈ GW := gw_at6 104 (by decide +kernel) (by decide +kernel)
theorem wl_J7_54 : Cond.methodLink RJ7 54 yJ4_append_bf812 ∈ GW := gw_at6 105 (by decide +kernel) (by decide +kernel)
theorem wl_J7_50 : Cond.methodLink RJ7 50 yJ4_append_15ec4 ∈ GW := gw_at6 107 (by decide +kernel) (by decide +kernel)
theorem wl_J7_61 : Cond.methodLink RJ7 61 yJ4_toString_0e30d ∈ GW := gw_at6 108 (by decide +kernel) (by decide +kernel)
theorem wl_J0_1051 : Cond.methodLink RJ0 1051 yJ2_compress_39247 ∈ GW := gw_at6 121 (by decide +kernel) (by decide +kernel)
theorem wst_J2_compress_39247 : Cond.static yJ2_compress_39247 ∈ GW := gw_at6 122 (by decide +kernel) (by decide +kernel)
theorem wc_J2_compress_39247 : Cond.code yJ2_compress_39247 cJ2_compress_39247 6 (some (FieldType.array FieldType.byte)) ∈ GW := gw_at6 123 (by decide +kernel) (by decide +kernel)
theorem wl_J2_123 : Cond.methodLink RJ2 123 yJ2_compress_5af95 ∈ GW := gw_at6 124 (by decide +kernel) (by decide +kernel)
theorem wst_J2_compress_5af95 : Cond.static yJ2_compress_5af95 ∈ GW := gw_at6 125 (by decide +kernel) (by decide +kernel)
theorem wc_J2_compress_5af95 : Cond.code yJ2_compress_5af95 cJ2_compress_5af95 7 (some FieldType.int) ∈ GW := gw_at6 126 (by decide +kernel) (by decide +kernel)
theorem wl_J2_126 : Cond.methodLink RJ2 126 yJ7_copyOfRange_39247 ∈ GW := gw_at6 127 (by decide +kernel) (by decide +kernel)
theorem wl_J0_47 : Cond.methodLink RJ0 47 yJ2_coderFromArrayLen_85cad ∈ GW := gw_at6 128 (by decide +kernel) (by decide +kernel)
theorem wst_J2_coderFromArrayLen_85cad : Cond.static yJ2_coderFromArrayLen_85cad ∈ GW := gw_at6 129 (by decide +kernel) (by decide +kernel)
theorem wc_J2_coderFromArrayLen_85cad : Cond.code yJ2_coderFromArrayLen_85cad cJ2_coderFromArrayLen_85cad 2 (some FieldType.byte) ∈ GW := gw_at6 130 (by decide +kernel) (by decide +kernel)
theorem wf_J0_9 : Cond.fieldLink RJ0 9 "java/lang/String" "value" "[B" ∈ GW := gw_at6 131 (by decide +kernel) (by decide +kernel)
theorem wf_J0_15 : Cond.fieldLink RJ0 15 "java/lang/String" "coder" "B" ∈ GW := gw_at6 132 (by decide +kernel) (by decide +kernel)
theorem wl_L_144 : Cond.methodLink RL 144 yL_acts ∈ GW := gw_at6 142 (by decide +kernel) (by decide +kernel)
theorem wst_L_acts : Cond.static yL_acts ∈ GW := gw_at6 143 (by decide +kernel) (by decide +kernel)
theorem wc_L_acts : Cond.codeWith yL_acts cL_acts 5 (some FieldType.int) [(38, 156, 230, 112), (157, 167, 230, 112), (168, 179, 230, 112), (180, 193, 230, 112), (194, 205, 230, 112), (206, 229, 230, 112)] ∈ GW := gw_at6 144 (by decide +kernel) (by decide +kernel)
theorem wk_L_112 : Cond.classLink RL 112 "java/lang/IllegalStateException" ∈ GW := gw_at6 145 (by decide +kernel) (by decide +kernel)
theorem wl_L_86 : Cond.methodLink RL 86 yX10_pageCount ∈ GW := gw_at6 146 (by decide +kernel) (by decide +kernel)
theorem wn_X10_pageCount : Cond.instanceMethod yX10_pageCount ∈ GW := gw_at6 147 (by decide +kernel) (by decide +kernel)
theorem we_X10_pageCount : Cond.selects RX10 yX10_pageCount yX10_pageCount ∈ GW := gw_at6 148 (by decide +kernel) (by decide +kernel)
theorem wc_X10_pageCount : Cond.code yX10_pageCount cX10_pageCount 1 (some FieldType.int) ∈ GW := gw_at6 149 (by decide +kernel) (by decide +kernel)
theorem wl_X10_211 : Cond.methodLink RX10 211 yX0_pages ∈ GW := gw_at6 150 (by decide +kernel) (by decide +kernel)
theorem wl_L_89 : Cond.methodLink RL 89 yX10_day ∈ GW := gw_at6 151 (by decide +kernel) (by decide +kernel)
theorem wl_L_92 : Cond.methodLink RL 92 yX10_print ∈ GW := gw_at6 152 (by decide +kernel) (by decide +kernel)
theorem wn_X10_print : Cond.instanceMethod yX10_print ∈ GW := gw_at6 153 (by decide +kernel) (by decide +kernel)
theorem we_X10_print : Cond.selects RX10 yX10_print yX10_print ∈ GW := gw_at6 154 (by decide +kernel) (by decide +kernel)
theorem wc_X10_print : Cond.code yX10_print cX10_print 4 (some FieldType.int) ∈ GW := gw_at6 155 (by decide +kernel) (by decide +kernel)
theorem wl_X10_223 : Cond.methodLink RX10 223 yX8_refusalToPrint ∈ GW := gw_at6 156 (by decide +kernel) (by decide +kernel)
theorem wl_X10_288 : Cond.methodLink RX10 288 yX0_add ∈ GW := gw_at6 157 (by decide +kernel) (by decide +kernel)
theorem wl_L_96 : Cond.methodLink RL 96 yX10_retract ∈ GW := gw_at6 158 (by decide +kernel) (by decide +kernel)
theorem wn_X10_retract : Cond.instanceMethod yX10_retract ∈ GW := gw_at6 159 (by decide +kernel) (by decide +kernel)
theorem we_X10_retract : Cond.selects RX10 yX10_retract yX10_retract ∈ GW := gw_at6 160 (by decide +kernel) (by decide +kernel)
theorem wc_X10_retract : Cond.code yX10_retract cX10_retract 2 (some FieldType.int) ∈ GW := gw_at6 161 (by decide +kernel) (by decide +kernel)
theorem wl_X10_214 : Cond.methodLink RX10 214 yX10_requirePage ∈ GW := gw_at6 162 (by decide +kernel) (by decide +kernel)
theorem wn_X10_requirePage : Cond.instanceMethod yX10_requirePage ∈ GW := gw_at6 164 (by decide +kernel) (by decide +kernel)
theorem wc_X10_requirePage : Cond.code yX10_requirePage cX10_requirePage 2 none ∈ GW := gw_at6 165 (by decide +kernel) (by decide +kernel)
theorem wl_X10_323 : Cond.methodLink RX10 323 yX0_hasPage ∈ GW := gw_at6 166 (by decide +kernel) (by decide +kernel)
theorem wl_X10_220 : Cond.methodLink RX10 220 yX8_canPayBackPage ∈ GW := gw_at6 167 (by decide +kernel) (by decide +kernel)
theorem wl_X10_291 : Cond.methodLink RX10 291 yX8_takeBackPage ∈ GW := gw_at6 168 (by decide +kernel) (by decide +kernel)
theorem wl_L_99 : Cond.methodLink RL 99 yX10_setTrust ∈ GW := gw_at6 169 (by decide +kernel) (by decide +kernel)
theorem wn_X10_setTrust : Cond.instanceMethod yX10_setTrust ∈ GW := gw_at6 170 (by decide +kernel) (by decide +kernel)
theorem we_X10_setTrust : Cond.selects RX10 yX10_setTrust yX10_setTrust ∈ GW := gw_at6 171 (by decide +kernel) (by decide +kernel)
theorem wc_X10_setTrust : Cond.code yX10_setTrust cX10_setTrust 4 (some FieldType.int) ∈ GW := gw_at6 172 (by decide +kernel) (by decide +kernel)
theorem wl_L_103 : Cond.methodLink RL 103 yX10_setPeople ∈ GW := gw_at6 173 (by decide +kernel) (by decide +kernel)
theorem wn_X10_setPeople : Cond.instanceMethod yX10_setPeople ∈ GW := gw_at6 174 (by decide +kernel) (by decide +kernel)
theorem we_X10_setPeople : Cond.selects RX10 yX10_setPeople yX10_setPeople ∈ GW := gw_at6 175 (by decide +kernel) (by decide +kernel)
theorem wc_X10_setPeople : Cond.code yX10_setPeople cX10_setPeople 4 (some FieldType.int) ∈ GW := gw_at6 176 (by decide +kernel) (by decide +kernel)
theorem wl_L_106 : Cond.methodLink RL 106 yX10_setOdds ∈ GW := gw_at6 177 (by decide +kernel) (by decide +kernel)
theorem wn_X10_setOdds : Cond.instanceMethod yX10_setOdds ∈ GW := gw_at6 178 (by decide +kernel) (by decide +kernel)
theorem we_X10_setOdds : Cond.selects RX10 yX10_setOdds yX10_setOdds ∈ GW := gw_at6 179 (by decide +kernel) (by decide +kernel)
theorem wc_X10_setOdds : Cond.code yX10_setOdds cX10_setOdds 4 (some FieldType.int) ∈ GW := gw_at6 180 (by decide +kernel) (by decide +kernel)
theorem wl_X10_178 : Cond.methodLink RX10 178 yX7_sumOfOdds ∈ GW := gw_at6 181 (by decide +kernel) (by decide +kernel)
theorem wl_L_109 : Cond.methodLink RL 109 yX10_pass ∈ GW := gw_at6 182 (by decide +kernel) (by decide +kernel)
theorem wn_X10_pass : Cond.instanceMethod yX10_pass ∈ GW := gw_at6 183 (by decide +kernel) (by decide +kernel)
theorem we_X10_pass : Cond.selects RX10 yX10_pass yX10_pass ∈ GW := gw_at6 184 (by decide +kernel) (by decide +kernel)
theorem wc_X10_pass : Cond.code yX10_pass cX10_pass 3 (some FieldType.int) ∈ GW := gw_at6 185 (by decide +kernel) (by decide +kernel)
theorem wl_X10_294 : Cond.methodLink RX10 294 yX8_letDaysPass ∈ GW := gw_at6 186 (by decide +kernel) (by decide +kernel)
theorem wu_X0 : ∀ w ∈ wsX00, w ∈ GW := gw_sub (by decide +kernel) (by decide +kernel)
theorem wu_X1 : ∀ w ∈ wsX10, w ∈ GW := gw_sub (by decide +kernel) (by decide +kernel)
theorem wu_X2 : ∀ w ∈ wsX20, w ∈ GW := gw_sub (by decide +kernel) (by decide +kernel)
theorem wu_X3 : ∀ w ∈ wsX30, w ∈ GW := gw_sub (by decide +kernel) (by decide +kernel)
theorem wu_X4 : ∀ w ∈ wsX40, w ∈ GW := gw_sub (by decide +kernel) (by decide +kernel)
theorem wu_X5 : ∀ w ∈ wsX50, w ∈ GW := gw_sub (by decide +kernel) (by decide +kernel)
theorem wu_X6 : ∀ w ∈ wsX60, w ∈ GW := gw_sub (by decide +kernel) (by decide +kernel)
theorem wu_X7 : ∀ w ∈ wsX70, w ∈ GW := gw_sub (by decide +kernel) (by decide +kernel)
theorem wu_X8 : ∀ w ∈ wsX80, w ∈ GW := gw_sub (by decide +kernel) (by decide +kernel)
theorem wu_X9 : ∀ w ∈ wsX90, w ∈ GW := gw_sub (by decide +kernel) (by decide +kernel)
theorem wu_X10 : ∀ w ∈ wsX100, w ∈ GW := gw_sub (by decide +kernel) (by decide +kernel)
theorem wu_X11 : ∀ w ∈ wsX110, w ∈ GW := gw_sub (by decide +kernel) (by decide +kernel)
theorem wu_X12 : ∀ w ∈ wsX120, w ∈ GW := gw_sub (by decide +kernel) (by decide +kernel)
theorem wu_Jx145de : ∀ w ∈ wsJx145de0, w ∈ GW := gw_sub (by decide +kernel) (by decide +kernel)
theorem wu_J5 : ∀ w ∈ wsJ50, w ∈ GW := gw_sub (by decide +kernel) (by decide +kernel)
theorem wu_Jx2cfe8 : ∀ w ∈ wsJx2cfe80, w ∈ GW := gw_sub (by decide +kernel) (by decide +kernel)
theorem wu_Jx9f9b0 : ∀ w ∈ wsJx9f9b00, w ∈ GW := gw_sub (by decide +kernel) (by decide +kernel)
theorem wu_Jx8e188 : ∀ w ∈ wsJx8e1880, w ∈ GW := gw_sub (by decide +kernel) (by decide +kernel)
theorem wu_Jxb160c : ∀ w ∈ wsJxb160c0, w ∈ GW := gw_sub (by decide +kernel) (by decide +kernel)
theorem wu_J6 : ∀ w ∈ wsJ60, w ∈ GW := gw_sub (by decide +kernel) (by decide +kernel)
theorem wu_J9 : ∀ w ∈ wsJ90, w ∈ GW := gw_sub (by decide +kernel) (by decide +kernel)
theorem wu_Jxd2413 : ∀ w ∈ wsJxd24130, w ∈ GW := gw_sub (by decide +kernel) (by decide +kernel)
theorem wu_J0 : ∀ w ∈ wsJ00, w ∈ GW := gw_sub (by decide +kernel) (by decide +kernel)
theorem wu_J4 : ∀ w ∈ wsJ40, w ∈ GW := gw_sub (by decide +kernel) (by decide +kernel)
theorem wu_J1 : ∀ w ∈ wsJ10, w ∈ GW := gw_sub (by decide +kernel) (by decide +kernel)
theorem wu_J2 : ∀ w ∈ wsJ20, w ∈ GW := gw_sub (by decide +kernel) (by decide +kernel)
theorem wu_J10 : ∀ w ∈ wsJ100, w ∈ GW := gw_sub (by decide +kernel) (by decide +kernel)
theorem wu_Jxfd54e : ∀ w ∈ wsJxfd54e0, w ∈ GW := gw_sub (by decide +kernel) (by decide +kernel)
theorem wu_Jx3cf43 : ∀ w ∈ wsJx3cf430, w ∈ GW := gw_sub (by decide +kernel) (by decide +kernel)
theorem wu_J7 : ∀ w ∈ wsJ70, w ∈ GW := gw_sub (by decide +kernel) (by decide +kernel)
theorem wu_J8 : ∀ w ∈ wsJ80, w ∈ GW := gw_sub (by decide +kernel) (by decide +kernel)
theorem wu_J3 : ∀ w ∈ wsJ30, w ∈ GW := gw_sub (by decide +kernel) (by decide +kernel)
/-- the links of nest mates: facts of a state that go with it -/
def NWL : List Cond := [Cond.methodLinkNest RX10 9 yX1_init RX10, Cond.methodLinkNest RX10 21 yX8_init RX10, Cond.methodLinkNest RX8 11 yX9_init RX10, Cond.methodLinkNest RX8 20 yX2_init RX10, Cond.methodLinkNest RX8 27 yX7_init RX10, Cond.methodLinkNest RX8 34 yX0_init RX10, Cond.methodLinkNest RX8 41 yX4_init RX10, Cond.methodLinkNest RX3 22 yX8_init RX10, Cond.methodLinkNest RX6 41 yX10_isLetter RX10, Cond.methodLinkNest RX6 44 yX10_isDigit RX10, Cond.methodLinkNest RX5 180 yX10_isBetween RX10, Cond.methodLinkNest RX1 37 yX10_isLetter RX10, Cond.methodLinkNest RX9 25 yX10_placeIn RX10, Cond.methodLinkNest RX2 31 yX10_placeIn RX10, Cond.methodLinkNest RX8 100 yX10_isBetween RX10, Cond.methodLinkNest RX4 23 yX10_labelOf RX10, Cond.methodLinkNest RX11 42 yL_cell RL, Cond.methodLinkNest RX11 52 yL_odds RL, Cond.methodLinkNest RX11 54 yL_people RL, Cond.methodLinkNest RX11 56 yL_trust RL, Cond.methodLinkNest RX11 58 yL_place RL, Cond.methodLinkNest RX11 61 yL_period RL, Cond.methodLinkNest RX11 63 yL_stock RL, Cond.methodLinkNest RX11 65 yL_price RL, Cond.methodLinkNest RX0 31 yX10_labelOf RX10]
theorem wln_X10_9 : Cond.methodLinkNest RX10 9 yX1_init RX10 ∈ NWL := List.mem_of_getElem? (i := 0) rfl
theorem wln_X10_21 : Cond.methodLinkNest RX10 21 yX8_init RX10 ∈ NWL := List.mem_of_getElem? (i := 1) rfl
theorem wln_X8_11 : Cond.methodLinkNest RX8 11 yX9_init RX10 ∈ NWL := List.mem_of_getElem? (i := 2) rfl
theorem wln_X8_20 : Cond.methodLinkNest RX8 20 yX2_init RX10 ∈ NWL := List.mem_of_getElem? (i := 3) rfl
theorem wln_X8_27 : Cond.methodLinkNest RX8 27 yX7_init RX10 ∈ NWL := List.mem_of_getElem? (i := 4) rfl
theorem wln_X8_34 : Cond.methodLinkNest RX8 34 yX0_init RX10 ∈ NWL := List.mem_of_getElem? (i := 5) rfl
theorem wln_X8_41 : Cond.methodLinkNest RX8 41 yX4_init RX10 ∈ NWL := List.mem_of_getElem? (i := 6) rfl
theorem wln_X3_22 : Cond.methodLinkNest RX3 22 yX8_init RX10 ∈ NWL := List.mem_of_getElem? (i := 7) rfl
theorem wln_X6_41 : Cond.methodLinkNest RX6 41 yX10_isLetter RX10 ∈ NWL := List.mem_of_getElem? (i := 8) rfl
theorem wln_X6_44 : Cond.methodLinkNest RX6 44 yX10_isDigit RX10 ∈ NWL := List.mem_of_getElem? (i := 9) rfl
theorem wln_X5_180 : Cond.methodLinkNest RX5 180 yX10_isBetween RX10 ∈ NWL := List.mem_of_getElem? (i := 10) rfl
theorem wln_X1_37 : Cond.methodLinkNest RX1 37 yX10_isLetter RX10 ∈ NWL := List.mem_of_getElem? (i := 11) rfl
theorem wln_X9_25 : Cond.methodLinkNest RX9 25 yX10_placeIn RX10 ∈ NWL := List.mem_of_getElem? (i := 12) rfl
theorem wln_X2_31 : Cond.methodLinkNest RX2 31 yX10_placeIn RX10 ∈ NWL := List.mem_of_getElem? (i := 13) rfl
theorem wln_X8_100 : Cond.methodLinkNest RX8 100 yX10_isBetween RX10 ∈ NWL := List.mem_of_getElem? (i := 14) rfl
theorem wln_X4_23 : Cond.methodLinkNest RX4 23 yX10_labelOf RX10 ∈ NWL := List.mem_of_getElem? (i := 15) rfl
theorem wln_X11_42 : Cond.methodLinkNest RX11 42 yL_cell RL ∈ NWL := List.mem_of_getElem? (i := 16) rfl
theorem wln_X11_52 : Cond.methodLinkNest RX11 52 yL_odds RL ∈ NWL := List.mem_of_getElem? (i := 17) rfl
theorem wln_X11_54 : Cond.methodLinkNest RX11 54 yL_people RL ∈ NWL := List.mem_of_getElem? (i := 18) rfl
theorem wln_X11_56 : Cond.methodLinkNest RX11 56 yL_trust RL ∈ NWL := List.mem_of_getElem? (i := 19) rfl
theorem wln_X11_58 : Cond.methodLinkNest RX11 58 yL_place RL ∈ NWL := List.mem_of_getElem? (i := 20) rfl
theorem wln_X11_61 : Cond.methodLinkNest RX11 61 yL_period RL ∈ NWL := List.mem_of_getElem? (i := 21) rfl
theorem wln_X11_63 : Cond.methodLinkNest RX11 63 yL_stock RL ∈ NWL := List.mem_of_getElem? (i := 22) rfl
theorem wln_X11_65 : Cond.methodLinkNest RX11 65 yL_price RL ∈ NWL := List.mem_of_getElem? (i := 23) rfl
theorem wln_X0_31 : Cond.methodLinkNest RX0 31 yX10_labelOf RX10 ∈ NWL := List.mem_of_getElem? (i := 24) rfl
/-- the String constants: class, entry, text, bytes -/
def SKo : List String := [RX10, RX5, RX5, RX5, RX5, RX5, RX5, RX5, RX5, RX5, RL, RL, RL, RJ7]
def SKi : List Nat := [51, 46, 85, 90, 95, 173, 175, 177, 100, 105, 42, 57, 68, 337]
def SKt : List String := ["almanac 7 9 6 5;village bree 40 50;village dale 20 80;fair mart bree 3 30 4;fair wake dale 2 9 7;say bree 5 rain;say dale 3 sun;say bree 2 sun;say dale 9 storm;say bree 8 sun;pass 3;", "almanac", "village", "fair", "say", "sun", "rain", "storm", "retract", "pass", "almanac ", "village ", "fair ", " > "]
def SKn : List Nat := [182, 7, 7, 4, 3, 3, 4, 5, 7, 4, 8, 8, 5, 3]
def SKb : List (List Int32) := [[97, 108, 109, 97, 110, 97, 99, 32, 55, 32, 57, 32, 54, 32, 53, 59, 118, 105, 108, 108, 97, 103, 101, 32, 98, 114, 101, 101, 32, 52, 48, 32, 53, 48, 59, 118, 105, 108, 108, 97, 103, 101, 32, 100, 97, 108, 101, 32, 50, 48, 32, 56, 48, 59, 102, 97, 105, 114, 32, 109, 97, 114, 116, 32, 98, 114, 101, 101, 32, 51, 32, 51, 48, 32, 52, 59, 102, 97, 105, 114, 32, 119, 97, 107, 101, 32, 100, 97, 108, 101, 32, 50, 32, 57, 32, 55, 59, 115, 97, 121, 32, 98, 114, 101, 101, 32, 53, 32, 114, 97, 105, 110, 59, 115, 97, 121, 32, 100, 97, 108, 101, 32, 51, 32, 115, 117, 110, 59, 115, 97, 121, 32, 98, 114, 101, 101, 32, 50, 32, 115, 117, 110, 59, 115, 97, 121, 32, 100, 97, 108, 101, 32, 57, 32, 115, 116, 111, 114, 109, 59, 115, 97, 121, 32, 98, 114, 101, 101, 32, 56, 32, 115, 117, 110, 59, 112, 97, 115, 115, 32, 51, 59], [97, 108, 109, 97, 110, 97, 99], [118, 105, 108, 108, 97, 103, 101], [102, 97, 105, 114], [115, 97, 121], [115, 117, 110], [114, 97, 105, 110], [115, 116, 111, 114, 109], [114, 101, 116, 114, 97, 99, 116], [112, 97, 115, 115], [97, 108, 109, 97, 110, 97, 99, 32], [118, 105, 108, 108, 97, 103, 101, 32], [102, 97, 105, 114, 32], [32, 62, 32]]
end
section
theorem dX0_init_0 : decode cX0_init 0 = .ok (.aload_n 0, 1) := by decide +kernel
theorem dX0_init_1 : decode cX0_init 1 = .ok (.invokespecial 3, 3) := by decide +kernel
theorem dX0_init_4 : decode cX0_init 4 = .ok (.aload_n 0, 1) := by decide +kernel
theorem dX0_init_5 : decode cX0_init 5 = .ok (.bipush 30, 2) := by decide +kernel
theorem dX0_init_7 : decode cX0_init 7 = .ok (.newarray .int, 2) := by decide +kernel
theorem dX0_init_9 : decode cX0_init 9 = .ok (.putfield 9, 3) := by decide +kernel
theorem dX0_init_12 : decode cX0_init 12 = .ok (.aload_n 0, 1) := by decide +kernel
theorem dX0_init_13 : decode cX0_init 13 = .ok (.bipush 30, 2) := by decide +kernel
theorem dX0_init_15 : decode cX0_init 15 = .ok (.newarray .int, 2) := by decide +kernel
theorem dX0_init_17 : decode cX0_init 17 = .ok (.putfield 15, 3) := by decide +kernel
theorem dX0_init_20 : decode cX0_init 20 = .ok (.aload_n 0, 1) := by decide +kernel
theorem dX0_init_21 : decode cX0_init 21 = .ok (.bipush 30, 2) := by decide +kernel
theorem dX0_init_23 : decode cX0_init 23 = .ok (.newarray .int, 2) := by decide +kernel
theorem dX0_init_25 : decode cX0_init 25 = .ok (.putfield 18, 3) := by decide +kernel
theorem dX0_init_28 : decode cX0_init 28 = .ok (.aload_n 0, 1) := by decide +kernel
theorem dX0_init_29 : decode cX0_init 29 = .ok (.bipush 30, 2) := by decide +kernel
theorem dX0_init_31 : decode cX0_init 31 = .ok (.newarray .int, 2) := by decide +kernel
theorem dX0_init_33 : decode cX0_init 33 = .ok (.putfield 21, 3) := by decide +kernel
theorem dX0_init_36 : decode cX0_init 36 = .ok (.aload_n 0, 1) := by decide +kernel
theorem dX0_init_37 : decode cX0_init 37 = .ok (.bipush 30, 2) := by decide +kernel
theorem dX0_init_39 : decode cX0_init 39 = .ok (.newarray .int, 2) := by decide +kernel
theorem dX0_init_41 : decode cX0_init 41 = .ok (.putfield 24, 3) := by decide +kernel
theorem dX0_init_44 : decode cX0_init 44 = .ok (.aload_n 0, 1) := by decide +kernel
theorem dX0_init_45 : decode cX0_init 45 = .ok (.iconst 0, 1) := by decide +kernel
theorem dX0_init_46 : decode cX0_init 46 = .ok (.putfield 27, 3) := by decide +kernel
theorem dX0_init_49 : decode cX0_init 49 = .ok (.return_, 1) := by decide +kernel
theorem dX0_placeOf_0 : decode cX0_placeOf 0 = .ok (.iconst 0, 1) := by decide +kernel
theorem dX0_placeOf_1 : decode cX0_placeOf 1 = .ok (.istore_n 3, 1) := by decide +kernel
theorem dX0_placeOf_2 : decode cX0_placeOf 2 = .ok (.iload_n 3, 1) := by decide +kernel
theorem dX0_placeOf_3 : decode cX0_placeOf 3 = .ok (.aload_n 0, 1) := by decide +kernel
theorem dX0_placeOf_4 : decode cX0_placeOf 4 = .ok (.getfield 27, 3) := by decide +kernel
theorem dX0_placeOf_7 : decode cX0_placeOf 7 = .ok (.if_icmp .ge 31, 3) := by decide +kernel
theorem dX0_placeOf_10 : decode cX0_placeOf 10 = .ok (.aload_n 0, 1) := by decide +kernel
theorem dX0_placeOf_11 : decode cX0_placeOf 11 = .ok (.getfield 9, 3) := by decide +kernel
theorem dX0_placeOf_14 : decode cX0_placeOf 14 = .ok (.iload_n 3, 1) := by decide +kernel
theorem dX0_placeOf_15 : decode cX0_placeOf 15 = .ok (.iaload, 1) := by decide +kernel
theorem dX0_placeOf_16 : decode cX0_placeOf 16 = .ok (.iload_n 1, 1) := by decide +kernel
theorem dX0_placeOf_17 : decode cX0_placeOf 17 = .ok (.if_icmp .ne 15, 3) := by decide +kernel
theorem dX0_placeOf_20 : decode cX0_placeOf 20 = .ok (.aload_n 0, 1) := by decide +kernel
theorem dX0_placeOf_21 : decode cX0_placeOf 21 = .ok (.getfield 15, 3) := by decide +kernel
theorem dX0_placeOf_24 : decode cX0_placeOf 24 = .ok (.iload_n 3, 1) := by decide +kernel
theorem dX0_placeOf_25 : decode cX0_placeOf 25 = .ok (.iaload, 1) := by decide +kernel
theorem dX0_placeOf_26 : decode cX0_placeOf 26 = .ok (.iload_n 2, 1) := by decide +kernel
theorem dX0_placeOf_27 : decode cX0_placeOf 27 = .ok (.if_icmp .ne 5, 3) := by decide +kernel
theorem dX0_placeOf_30 : decode cX0_placeOf 30 = .ok (.iload_n 3, 1) := by decide +kernel
theorem dX0_placeOf_31 : decode cX0_placeOf 31 = .ok (.ireturn, 1) := by decide +kernel
theorem dX0_placeOf_32 : decode cX0_placeOf 32 = .ok (.iinc 3 1, 3) := by decide +kernel
theorem dX0_placeOf_35 : decode cX0_placeOf 35 = .ok (.goto (-33), 3) := by decide +kernel
theorem dX0_placeOf_38 : decode cX0_placeOf 38 = .ok (.iconst (-1), 1) := by decide +kernel
theorem dX0_placeOf_39 : decode cX0_placeOf 39 = .ok (.ireturn, 1) := by decide +kernel
theorem dX0_labelAt_0 : decode cX0_labelAt 0 = .ok (.aload_n 0, 1) := by decide +kernel
theorem dX0_labelAt_1 : decode cX0_labelAt 1 = .ok (.getfield 9, 3) := by decide +kernel
theorem dX0_labelAt_4 : decode cX0_labelAt 4 = .ok (.iload_n 1, 1) := by decide +kernel
theorem dX0_labelAt_5 : decode cX0_labelAt 5 = .ok (.iaload, 1) := by decide +kernel
theorem dX0_labelAt_6 : decode cX0_labelAt 6 = .ok (.aload_n 0, 1) := by decide +kernel
theorem dX0_labelAt_7 : decode cX0_labelAt 7 = .ok (.getfield 15, 3) := by decide +kernel
theorem dX0_labelAt_10 : decode cX0_labelAt 10 = .ok (.iload_n 1, 1) := by decide +kernel
theorem dX0_labelAt_11 : decode cX0_labelAt 11 = .ok (.iaload, 1) := by decide +kernel
theorem dX0_labelAt_12 : decode cX0_labelAt 12 = .ok (.invokestatic 31, 3) := by decide +kernel
theorem dX0_labelAt_15 : decode cX0_labelAt 15 = .ok (.ireturn, 1) := by decide +kernel
theorem dX0_add_0 : decode cX0_add 0 = .ok (.aload_n 0, 1) := by decide +kernel
theorem dX0_add_1 : decode cX0_add 1 = .ok (.getfield 27, 3) := by decide +kernel
theorem dX0_add_4 : decode cX0_add 4 = .ok (.bipush 30, 2) := by decide +kernel
theorem dX0_add_6 : decode cX0_add 6 = .ok (.if_icmp .lt 4, 3) := by decide +kernel
theorem dX0_add_9 : decode cX0_add 9 = .ok (.return_, 1) := by decide +kernel
theorem dX0_add_10 : decode cX0_add 10 = .ok (.aload_n 0, 1) := by decide +kernel
theorem dX0_add_11 : decode cX0_add 11 = .ok (.getfield 9, 3) := by decide +kernel
theorem dX0_add_14 : decode cX0_add 14 = .ok (.aload_n 0, 1) := by decide +kernel
theorem dX0_add_15 : decode cX0_add 15 = .ok (.getfield 27, 3) := by decide +kernel
theorem dX0_add_18 : decode cX0_add 18 = .ok (.iload_n 1, 1) := by decide +kernel
theorem dX0_add_19 : decode cX0_add 19 = .ok (.iastore, 1) := by decide +kernel
theorem dX0_add_20 : decode cX0_add 20 = .ok (.aload_n 0, 1) := by decide +kernel
theorem dX0_add_21 : decode cX0_add 21 = .ok (.getfield 15, 3) := by decide +kernel
theorem dX0_add_24 : decode cX0_add 24 = .ok (.aload_n 0, 1) := by decide +kernel
theorem dX0_add_25 : decode cX0_add 25 = .ok (.getfield 27, 3) := by decide +kernel
theorem dX0_add_28 : decode cX0_add 28 = .ok (.iload_n 2, 1) := by decide +kernel
theorem dX0_add_29 : decode cX0_add 29 = .ok (.iastore, 1) := by decide +kernel
theorem dX0_add_30 : decode cX0_add 30 = .ok (.aload_n 0, 1) := by decide +kernel
theorem dX0_add_31 : decode cX0_add 31 = .ok (.getfield 18, 3) := by decide +kernel
theorem dX0_add_34 : decode cX0_add 34 = .ok (.aload_n 0, 1) := by decide +kernel
theorem dX0_add_35 : decode cX0_add 35 = .ok (.getfield 27, 3) := by decide +kernel
theorem dX0_add_38 : decode cX0_add 38 = .ok (.iload_n 3, 1) := by decide +kernel
theorem dX0_add_39 : decode cX0_add 39 = .ok (.iastore, 1) := by decide +kernel
theorem dX0_add_40 : decode cX0_add 40 = .ok (.aload_n 0, 1) := by decide +kernel
theorem dX0_add_41 : decode cX0_add 41 = .ok (.getfield 21, 3) := by decide +kernel
theorem dX0_add_44 : decode cX0_add 44 = .ok (.aload_n 0, 1) := by decide +kernel
theorem dX0_add_45 : decode cX0_add 45 = .ok (.getfield 27, 3) := by decide +kernel
theorem dX0_add_48 : decode cX0_add 48 = .ok (.iconst 0, 1) := by decide +kernel
theorem dX0_add_49 : decode cX0_add 49 = .ok (.iastore, 1) := by decide +kernel
theorem dX0_add_50 : decode cX0_add 50 = .ok (.aload_n 0, 1) := by decide +kernel
theorem dX0_add_51 : decode cX0_add 51 = .ok (.getfield 24, 3) := by decide +kernel
theorem dX0_add_54 : decode cX0_add 54 = .ok (.aload_n 0, 1) := by decide +kernel
theorem dX0_add_55 : decode cX0_add 55 = .ok (.getfield 27, 3) := by decide +kernel
theorem dX0_add_58 : decode cX0_add 58 = .ok (.iconst 0, 1) := by decide +kernel
theorem dX0_add_59 : decode cX0_add 59 = .ok (.iastore, 1) := by decide +kernel
theorem dX0_add_60 : decode cX0_add 60 = .ok (.aload_n 0, 1) := by decide +kernel
theorem dX0_add_61 : decode cX0_add 61 = .ok (.dup, 1) := by decide +kernel
theorem dX0_add_62 : decode cX0_add 62 = .ok (.getfield 27, 3) := by decide +kernel
theorem dX0_add_65 : decode cX0_add 65 = .ok (.iconst 1, 1) := by decide +kernel
theorem dX0_add_66 : decode cX0_add 66 = .ok (.iadd, 1) := by decide +kernel
theorem dX0_add_67 : decode cX0_add 67 = .ok (.putfield 27, 3) := by decide +kernel
theorem dX0_add_70 : decode cX0_add 70 = .ok (.return_, 1) := by decide +kernel
theorem dX0_remove_0 : decode cX0_remove 0 = .ok (.iload_n 1, 1) := by decide +kernel
theorem dX0_remove_1 : decode cX0_remove 1 = .ok (.ifCond .lt 16, 3) := by decide +kernel
theorem dX0_remove_4 : decode cX0_remove 4 = .ok (.iload_n 1, 1) := by decide +kernel
theorem dX0_remove_5 : decode cX0_remove 5 = .ok (.iload_n 2, 1) := by decide +kernel
theorem dX0_remove_6 : decode cX0_remove 6 = .ok (.if_icmp .gt 11, 3) := by decide +kernel
theorem dX0_remove_9 : decode cX0_remove 9 = .ok (.iload_n 2, 1) := by decide +kernel
theorem dX0_remove_10 : decode cX0_remove 10 = .ok (.aload_n 0, 1) := by decide +kernel
theorem dX0_remove_11 : decode cX0_remove 11 = .ok (.getfield 27, 3) := by decide +kernel
theorem dX0_remove_14 : decode cX0_remove 14 = .ok (.if_icmp .le 4, 3) := by decide +kernel
theorem dX0_remove_17 : decode cX0_remove 17 = .ok (.return_, 1) := by decide +kernel
theorem dX0_remove_18 : decode cX0_remove 18 = .ok (.aload_n 0, 1) := by decide +kernel
theorem dX0_remove_19 : decode cX0_remove 19 = .ok (.getfield 27, 3) := by decide +kernel
theorem dX0_remove_22 : decode cX0_remove 22 = .ok (.iload_n 2, 1) := by decide +kernel
theorem dX0_remove_23 : decode cX0_remove 23 = .ok (.isub, 1) := by decide +kernel
theorem dX0_remove_24 : decode cX0_remove 24 = .ok (.istore_n 3, 1) := by decide +kernel
theorem dX0_remove_25 : decode cX0_remove 25 = .ok (.aload_n 0, 1) := by decide +kernel
theorem dX0_remove_26 : decode cX0_remove 26 = .ok (.getfield 9, 3) := by decide +kernel
theorem dX0_remove_29 : decode cX0_remove 29 = .ok (.iload_n 2, 1) := by decide +kernel
theorem dX0_remove_30 : decode cX0_remove 30 = .ok (.aload_n 0, 1) := by decide +kernel
theorem dX0_remove_31 : decode cX0_remove 31 = .ok (.getfield 9, 3) := by decide +kernel
theorem dX0_remove_34 : decode cX0_remove 34 = .ok (.iload_n 1, 1) := by decide +kernel
theorem dX0_remove_35 : decode cX0_remove 35 = .ok (.iload_n 3, 1) := by decide +kernel
theorem dX0_remove_36 : decode cX0_remove 36 = .ok (.invokestatic 35, 3) := by decide +kernel
theorem dX0_remove_39 : decode cX0_remove 39 = .ok (.aload_n 0, 1) := by decide +kernel
theorem dX0_remove_40 : decode cX0_remove 40 = .ok (.getfield 15, 3) := by decide +kernel
theorem dX0_remove_43 : decode cX0_remove 43 = .ok (.iload_n 2, 1) := by decide +kernel
theorem dX0_remove_44 : decode cX0_remove 44 = .ok (.aload_n 0, 1) := by decide +kernel
theorem dX0_remove_45 : decode cX0_remove 45 = .ok (.getfield 15, 3) := by decide +kernel
theorem dX0_remove_48 : decode cX0_remove 48 = .ok (.iload_n 1, 1) := by decide +kernel
theorem dX0_remove_49 : decode cX0_remove 49 = .ok (.iload_n 3, 1) := by decide +kernel
theorem dX0_remove_50 : decode cX0_remove 50 = .ok (.invokestatic 35, 3) := by decide +kernel
theorem dX0_remove_53 : decode cX0_remove 53 = .ok (.aload_n 0, 1) := by decide +kernel
theorem dX0_remove_54 : decode cX0_remove 54 = .ok (.getfield 18, 3) := by decide +kernel
theorem dX0_remove_57 : decode cX0_remove 57 = .ok (.iload_n 2, 1) := by decide +kernel
theorem dX0_remove_58 : decode cX0_remove 58 = .ok (.aload_n 0, 1) := by decide +kernel
theorem dX0_remove_59 : decode cX0_remove 59 = .ok (.getfield 18, 3) := by decide +kernel
theorem dX0_remove_62 : decode cX0_remove 62 = .ok (.iload_n 1, 1) := by decide +kernel
theorem dX0_remove_63 : decode cX0_remove 63 = .ok (.iload_n 3, 1) := by decide +kernel
theorem dX0_remove_64 : decode cX0_remove 64 = .ok (.invokestatic 35, 3) := by decide +kernel
theorem dX0_remove_67 : decode cX0_remove 67 = .ok (.aload_n 0, 1) := by decide +kernel
theorem dX0_remove_68 : decode cX0_remove 68 = .ok (.getfield 21, 3) := by decide +kernel
theorem dX0_remove_71 : decode cX0_remove 71 = .ok (.iload_n 2, 1) := by decide +kernel
theorem dX0_remove_72 : decode cX0_remove 72 = .ok (.aload_n 0, 1) := by decide +kernel
theorem dX0_remove_73 : decode cX0_remove 73 = .ok (.getfield 21, 3) := by decide +kernel
theorem dX0_remove_76 : decode cX0_remove 76 = .ok (.iload_n 1, 1) := by decide +kernel
theorem dX0_remove_77 : decode cX0_remove 77 = .ok (.iload_n 3, 1) := by decide +kernel
theorem dX0_remove_78 : decode cX0_remove 78 = .ok (.invokestatic 35, 3) := by decide +kernel
theorem dX0_remove_81 : decode cX0_remove 81 = .ok (.aload_n 0, 1) := by decide +kernel
theorem dX0_remove_82 : decode cX0_remove 82 = .ok (.getfield 24, 3) := by decide +kernel
theorem dX0_remove_85 : decode cX0_remove 85 = .ok (.iload_n 2, 1) := by decide +kernel
theorem dX0_remove_86 : decode cX0_remove 86 = .ok (.aload_n 0, 1) := by decide +kernel
theorem dX0_remove_87 : decode cX0_remove 87 = .ok (.getfield 24, 3) := by decide +kernel
theorem dX0_remove_90 : decode cX0_remove 90 = .ok (.iload_n 1, 1) := by decide +kernel
theorem dX0_remove_91 : decode cX0_remove 91 = .ok (.iload_n 3, 1) := by decide +kernel
theorem dX0_remove_92 : decode cX0_remove 92 = .ok (.invokestatic 35, 3) := by decide +kernel
theorem dX0_remove_95 : decode cX0_remove 95 = .ok (.aload_n 0, 1) := by decide +kernel
theorem dX0_remove_96 : decode cX0_remove 96 = .ok (.iload_n 1, 1) := by decide +kernel
theorem dX0_remove_97 : decode cX0_remove 97 = .ok (.iload_n 3, 1) := by decide +kernel
theorem dX0_remove_98 : decode cX0_remove 98 = .ok (.iadd, 1) := by decide +kernel
theorem dX0_remove_99 : decode cX0_remove 99 = .ok (.putfield 27, 3) := by decide +kernel
theorem dX0_remove_102 : decode cX0_remove 102 = .ok (.return_, 1) := by decide +kernel
theorem dX0_pages_0 : decode cX0_pages 0 = .ok (.aload_n 0, 1) := by decide +kernel
theorem dX0_pages_1 : decode cX0_pages 1 = .ok (.getfield 27, 3) := by decide +kernel
theorem dX0_pages_4 : decode cX0_pages 4 = .ok (.iconst 4, 1) := by decide +kernel
theorem dX0_pages_5 : decode cX0_pages 5 = .ok (.iadd, 1) := by decide +kernel
theorem dX0_pages_6 : decode cX0_pages 6 = .ok (.iconst 1, 1) := by decide +kernel
theorem dX0_pages_7 : decode cX0_pages 7 = .ok (.isub, 1) := by decide +kernel
theorem dX0_pages_8 : decode cX0_pages 8 = .ok (.iconst 4, 1) := by decide +kernel
theorem dX0_pages_9 : decode cX0_pages 9 = .ok (.idiv, 1) := by decide +kernel
theorem dX0_pages_10 : decode cX0_pages 10 = .ok (.ireturn, 1) := by decide +kernel
theorem dX0_hasPage_0 : decode cX0_hasPage 0 = .ok (.iload_n 1, 1) := by decide +kernel
theorem dX0_hasPage_1 : decode cX0_hasPage 1 = .ok (.ifCond .lt 15, 3) := by decide +kernel
theorem dX0_hasPage_4 : decode cX0_hasPage 4 = .ok (.iload_n 1, 1) := by decide +kernel
theorem dX0_hasPage_5 : decode cX0_hasPage 5 = .ok (.aload_n 0, 1) := by decide +kernel
theorem dX0_hasPage_6 : decode cX0_hasPage 6 = .ok (.invokevirtual 41, 3) := by decide +kernel
theorem dX0_hasPage_9 : decode cX0_hasPage 9 = .ok (.if_icmp .ge 7, 3) := by decide +kernel
theorem dX0_hasPage_12 : decode cX0_hasPage 12 = .ok (.iconst 1, 1) := by decide +kernel
theorem dX0_hasPage_13 : decode cX0_hasPage 13 = .ok (.goto 4, 3) := by decide +kernel
theorem dX0_hasPage_16 : decode cX0_hasPage 16 = .ok (.iconst 0, 1) := by decide +kernel
theorem dX0_hasPage_17 : decode cX0_hasPage 17 = .ok (.ireturn, 1) := by decide +kernel
theorem dX0_startOf_0 : decode cX0_startOf 0 = .ok (.iconst 4, 1) := by decide +kernel
theorem dX0_startOf_1 : decode cX0_startOf 1 = .ok (.iload_n 1, 1) := by decide +kernel
theorem dX0_startOf_2 : decode cX0_startOf 2 = .ok (.imul, 1) := by decide +kernel
theorem dX0_startOf_3 : decode cX0_startOf 3 = .ok (.ireturn, 1) := by decide +kernel
theorem dX0_endOf_0 : decode cX0_endOf 0 = .ok (.aload_n 0, 1) := by decide +kernel
theorem dX0_endOf_1 : decode cX0_endOf 1 = .ok (.getfield 27, 3) := by decide +kernel
theorem dX0_endOf_4 : decode cX0_endOf 4 = .ok (.iconst 4, 1) := by decide +kernel
theorem dX0_endOf_5 : decode cX0_endOf 5 = .ok (.iload_n 1, 1) := by decide +kernel
theorem dX0_endOf_6 : decode cX0_endOf 6 = .ok (.imul, 1) := by decide +kernel
theorem dX0_endOf_7 : decode cX0_endOf 7 = .ok (.iconst 4, 1) := by decide +kernel
theorem dX0_endOf_8 : decode cX0_endOf 8 = .ok (.iadd, 1) := by decide +kernel
theorem dX0_endOf_9 : decode cX0_endOf 9 = .ok (.invokestatic 45, 3) := by decide +kernel
theorem dX0_endOf_12 : decode cX0_endOf 12 = .ok (.ireturn, 1) := by decide +kernel
theorem dX0_paidForPage_0 : decode cX0_paidForPage 0 = .ok (.iconst 0, 1) := by decide +kernel
theorem dX0_paidForPage_1 : decode cX0_paidForPage 1 = .ok (.istore_n 2, 1) := by decide +kernel
theorem dX0_paidForPage_2 : decode cX0_paidForPage 2 = .ok (.aload_n 0, 1) := by decide +kernel
theorem dX0_paidForPage_3 : decode cX0_paidForPage 3 = .ok (.iload_n 1, 1) := by decide +kernel
theorem dX0_paidForPage_4 : decode cX0_paidForPage 4 = .ok (.invokevirtual 50, 3) := by decide +kernel
theorem dX0_paidForPage_7 : decode cX0_paidForPage 7 = .ok (.istore_n 3, 1) := by decide +kernel
theorem dX0_paidForPage_8 : decode cX0_paidForPage 8 = .ok (.iload_n 3, 1) := by decide +kernel
theorem dX0_paidForPage_9 : decode cX0_paidForPage 9 = .ok (.aload_n 0, 1) := by decide +kernel
theorem dX0_paidForPage_10 : decode cX0_paidForPage 10 = .ok (.iload_n 1, 1) := by decide +kernel
theorem dX0_paidForPage_11 : decode cX0_paidForPage 11 = .ok (.invokevirtual 54, 3) := by decide +kernel
theorem dX0_paidForPage_14 : decode cX0_paidForPage 14 = .ok (.if_icmp .ge 18, 3) := by decide +kernel
theorem dX0_paidForPage_17 : decode cX0_paidForPage 17 = .ok (.iload_n 2, 1) := by decide +kernel
theorem dX0_paidForPage_18 : decode cX0_paidForPage 18 = .ok (.aload_n 0, 1) := by decide +kernel
theorem dX0_paidForPage_19 : decode cX0_paidForPage 19 = .ok (.getfield 24, 3) := by decide +kernel
theorem dX0_paidForPage_22 : decode cX0_paidForPage 22 = .ok (.iload_n 3, 1) := by decide +kernel
theorem dX0_paidForPage_23 : decode cX0_paidForPage 23 = .ok (.iaload, 1) := by decide +kernel
theorem dX0_paidForPage_24 : decode cX0_paidForPage 24 = .ok (.iadd, 1) := by decide +kernel
theorem dX0_paidForPage_25 : decode cX0_paidForPage 25 = .ok (.istore_n 2, 1) := by decide +kernel
theorem dX0_paidForPage_26 : decode cX0_paidForPage 26 = .ok (.iinc 3 1, 3) := by decide +kernel
theorem dX0_paidForPage_29 : decode cX0_paidForPage 29 = .ok (.goto (-21), 3) := by decide +kernel
theorem dX0_paidForPage_32 : decode cX0_paidForPage 32 = .ok (.iload_n 2, 1) := by decide +kernel
theorem dX0_paidForPage_33 : decode cX0_paidForPage 33 = .ok (.ireturn, 1) := by decide +kernel
theorem dX0_copies_0 : decode cX0_copies 0 = .ok (.iconst 0, 1) := by decide +kernel
theorem dX0_copies_1 : decode cX0_copies 1 = .ok (.istore_n 1, 1) := by decide +kernel
theorem dX0_copies_2 : decode cX0_copies 2 = .ok (.iconst 0, 1) := by decide +kernel
theorem dX0_copies_3 : decode cX0_copies 3 = .ok (.istore_n 2, 1) := by decide +kernel
theorem dX0_copies_4 : decode cX0_copies 4 = .ok (.iload_n 2, 1) := by decide +kernel
theorem dX0_copies_5 : decode cX0_copies 5 = .ok (.aload_n 0, 1) := by decide +kernel
theorem dX0_copies_6 : decode cX0_copies 6 = .ok (.getfield 27, 3) := by decide +kernel
theorem dX0_copies_9 : decode cX0_copies 9 = .ok (.if_icmp .ge 18, 3) := by decide +kernel
theorem dX0_copies_12 : decode cX0_copies 12 = .ok (.iload_n 1, 1) := by decide +kernel
theorem dX0_copies_13 : decode cX0_copies 13 = .ok (.aload_n 0, 1) := by decide +kernel
theorem dX0_copies_14 : decode cX0_copies 14 = .ok (.getfield 21, 3) := by decide +kernel
theorem dX0_copies_17 : decode cX0_copies 17 = .ok (.iload_n 2, 1) := by decide +kernel
theorem dX0_copies_18 : decode cX0_copies 18 = .ok (.iaload, 1) := by decide +kernel
theorem dX0_copies_19 : decode cX0_copies 19 = .ok (.iadd, 1) := by decide +kernel
theorem dX0_copies_20 : decode cX0_copies 20 = .ok (.istore_n 1, 1) := by decide +kernel
theorem dX0_copies_21 : decode cX0_copies 21 = .ok (.iinc 2 1, 3) := by decide +kernel
theorem dX0_copies_24 : decode cX0_copies 24 = .ok (.goto (-20), 3) := by decide +kernel
theorem dX0_copies_27 : decode cX0_copies 27 = .ok (.iload_n 1, 1) := by decide +kernel
theorem dX0_copies_28 : decode cX0_copies 28 = .ok (.ireturn, 1) := by decide +kernel
theorem dX0_errors_0 : decode cX0_errors 0 = .ok (.iconst 0, 1) := by decide +kernel
theorem dX0_errors_1 : decode cX0_errors 1 = .ok (.istore_n 1, 1) := by decide +kernel
theorem dX0_errors_2 : decode cX0_errors 2 = .ok (.iconst 0, 1) := by decide +kernel
theorem dX0_errors_3 : decode cX0_errors 3 = .ok (.istore_n 2, 1) := by decide +kernel
theorem dX0_errors_4 : decode cX0_errors 4 = .ok (.iload_n 2, 1) := by decide +kernel
theorem dX0_errors_5 : decode cX0_errors 5 = .ok (.aload_n 0, 1) := by decide +kernel
theorem dX0_errors_6 : decode cX0_errors 6 = .ok (.getfield 27, 3) := by decide +kernel
theorem dX0_errors_9 : decode cX0_errors 9 = .ok (.if_icmp .ge 32, 3) := by decide +kernel
theorem dX0_errors_12 : decode cX0_errors 12 = .ok (.aload_n 0, 1) := by decide +kernel
theorem dX0_errors_13 : decode cX0_errors 13 = .ok (.aload_n 0, 1) := by decide +kernel
theorem dX0_errors_14 : decode cX0_errors 14 = .ok (.getfield 9, 3) := by decide +kernel
theorem dX0_errors_17 : decode cX0_errors 17 = .ok (.iload_n 2, 1) := by decide +kernel
theorem dX0_errors_18 : decode cX0_errors 18 = .ok (.iaload, 1) := by decide +kernel
theorem dX0_errors_19 : decode cX0_errors 19 = .ok (.aload_n 0, 1) := by decide +kernel
theorem dX0_errors_20 : decode cX0_errors 20 = .ok (.getfield 15, 3) := by decide +kernel
theorem dX0_errors_23 : decode cX0_errors 23 = .ok (.iload_n 2, 1) := by decide +kernel
theorem dX0_errors_24 : decode cX0_errors 24 = .ok (.iaload, 1) := by decide +kernel
theorem dX0_errors_25 : decode cX0_errors 25 = .ok (.invokevirtual 60, 3) := by decide +kernel
theorem dX0_errors_28 : decode cX0_errors 28 = .ok (.iload_n 2, 1) := by decide +kernel
theorem dX0_errors_29 : decode cX0_errors 29 = .ok (.if_icmp .eq 6, 3) := by decide +kernel
theorem dX0_errors_32 : decode cX0_errors 32 = .ok (.iinc 1 1, 3) := by decide +kernel
theorem dX0_errors_35 : decode cX0_errors 35 = .ok (.iinc 2 1, 3) := by decide +kernel
theorem dX0_errors_38 : decode cX0_errors 38 = .ok (.goto (-34), 3) := by decide +kernel
theorem dX0_errors_41 : decode cX0_errors 41 = .ok (.iload_n 1, 1) := by decide +kernel
theorem dX0_errors_42 : decode cX0_errors 42 = .ok (.ireturn, 1) := by decide +kernel
theorem dX0_takeFrom_0 : decode cX0_takeFrom 0 = .ok (.aload_n 1, 1) := by decide +kernel
theorem dX0_takeFrom_1 : decode cX0_takeFrom 1 = .ok (.getfield 9, 3) := by decide +kernel
theorem dX0_takeFrom_4 : decode cX0_takeFrom 4 = .ok (.iconst 0, 1) := by decide +kernel
theorem dX0_takeFrom_5 : decode cX0_takeFrom 5 = .ok (.aload_n 0, 1) := by decide +kernel
theorem dX0_takeFrom_6 : decode cX0_takeFrom 6 = .ok (.getfield 9, 3) := by decide +kernel
theorem dX0_takeFrom_9 : decode cX0_takeFrom 9 = .ok (.iconst 0, 1) := by decide +kernel
theorem dX0_takeFrom_10 : decode cX0_takeFrom 10 = .ok (.bipush 30, 2) := by decide +kernel
theorem dX0_takeFrom_12 : decode cX0_takeFrom 12 = .ok (.invokestatic 35, 3) := by decide +kernel
theorem dX0_takeFrom_15 : decode cX0_takeFrom 15 = .ok (.aload_n 1, 1) := by decide +kernel
theorem dX0_takeFrom_16 : decode cX0_takeFrom 16 = .ok (.getfield 15, 3) := by decide +kernel
theorem dX0_takeFrom_19 : decode cX0_takeFrom 19 = .ok (.iconst 0, 1) := by decide +kernel
theorem dX0_takeFrom_20 : decode cX0_takeFrom 20 = .ok (.aload_n 0, 1) := by decide +kernel
theorem dX0_takeFrom_21 : decode cX0_takeFrom 21 = .ok (.getfield 15, 3) := by decide +kernel
theorem dX0_takeFrom_24 : decode cX0_takeFrom 24 = .ok (.iconst 0, 1) := by decide +kernel
theorem dX0_takeFrom_25 : decode cX0_takeFrom 25 = .ok (.bipush 30, 2) := by decide +kernel
theorem dX0_takeFrom_27 : decode cX0_takeFrom 27 = .ok (.invokestatic 35, 3) := by decide +kernel
theorem dX0_takeFrom_30 : decode cX0_takeFrom 30 = .ok (.aload_n 1, 1) := by decide +kernel
theorem dX0_takeFrom_31 : decode cX0_takeFrom 31 = .ok (.getfield 18, 3) := by decide +kernel
theorem dX0_takeFrom_34 : decode cX0_takeFrom 34 = .ok (.iconst 0, 1) := by decide +kernel
theorem dX0_takeFrom_35 : decode cX0_takeFrom 35 = .ok (.aload_n 0, 1) := by decide +kernel
theorem dX0_takeFrom_36 : decode cX0_takeFrom 36 = .ok (.getfield 18, 3) := by decide +kernel
theorem dX0_takeFrom_39 : decode cX0_takeFrom 39 = .ok (.iconst 0, 1) := by decide +kernel
theorem dX0_takeFrom_40 : decode cX0_takeFrom 40 = .ok (.bipush 30, 2) := by decide +kernel
theorem dX0_takeFrom_42 : decode cX0_takeFrom 42 = .ok (.invokestatic 35, 3) := by decide +kernel
theorem dX0_takeFrom_45 : decode cX0_takeFrom 45 = .ok (.aload_n 1, 1) := by decide +kernel
theorem dX0_takeFrom_46 : decode cX0_takeFrom 46 = .ok (.getfield 21, 3) := by decide +kernel
theorem dX0_takeFrom_49 : decode cX0_takeFrom 49 = .ok (.iconst 0, 1) := by decide +kernel
theorem dX0_takeFrom_50 : decode cX0_takeFrom 50 = .ok (.aload_n 0, 1) := by decide +kernel
theorem dX0_takeFrom_51 : decode cX0_takeFrom 51 = .ok (.getfield 21, 3) := by decide +kernel
theorem dX0_takeFrom_54 : decode cX0_takeFrom 54 = .ok (.iconst 0, 1) := by decide +kernel
theorem dX0_takeFrom_55 : decode cX0_takeFrom 55 = .ok (.bipush 30, 2) := by decide +kernel
theorem dX0_takeFrom_57 : decode cX0_takeFrom 57 = .ok (.invokestatic 35, 3) := by decide +kernel
theorem dX0_takeFrom_60 : decode cX0_takeFrom 60 = .ok (.aload_n 1, 1) := by decide +kernel
theorem dX0_takeFrom_61 : decode cX0_takeFrom 61 = .ok (.getfield 24, 3) := by decide +kernel
theorem dX0_takeFrom_64 : decode cX0_takeFrom 64 = .ok (.iconst 0, 1) := by decide +kernel
theorem dX0_takeFrom_65 : decode cX0_takeFrom 65 = .ok (.aload_n 0, 1) := by decide +kernel
theorem dX0_takeFrom_66 : decode cX0_takeFrom 66 = .ok (.getfield 24, 3) := by decide +kernel
theorem dX0_takeFrom_69 : decode cX0_takeFrom 69 = .ok (.iconst 0, 1) := by decide +kernel
theorem dX0_takeFrom_70 : decode cX0_takeFrom 70 = .ok (.bipush 30, 2) := by decide +kernel
theorem dX0_takeFrom_72 : decode cX0_takeFrom 72 = .ok (.invokestatic 35, 3) := by decide +kernel
theorem dX0_takeFrom_75 : decode cX0_takeFrom 75 = .ok (.aload_n 0, 1) := by decide +kernel
theorem dX0_takeFrom_76 : decode cX0_takeFrom 76 = .ok (.aload_n 1, 1) := by decide +kernel
theorem dX0_takeFrom_77 : decode cX0_takeFrom 77 = .ok (.getfield 27, 3) := by decide +kernel
theorem dX0_takeFrom_80 : decode cX0_takeFrom 80 = .ok (.putfield 27, 3) := by decide +kernel
theorem dX0_takeFrom_83 : decode cX0_takeFrom 83 = .ok (.return_, 1) := by decide +kernel
theorem dX1_init_0 : decode cX1_init 0 = .ok (.aload_n 0, 1) := by decide +kernel
theorem dX1_init_1 : decode cX1_init 1 = .ok (.invokespecial 3, 3) := by decide +kernel
theorem dX1_init_4 : decode cX1_init 4 = .ok (.aload_n 0, 1) := by decide +kernel
theorem dX1_init_5 : decode cX1_init 5 = .ok (.sipush 600, 3) := by decide +kernel
theorem dX1_init_8 : decode cX1_init 8 = .ok (.newarray .byte, 2) := by decide +kernel
theorem dX1_init_10 : decode cX1_init 10 = .ok (.putfield 11, 3) := by decide +kernel
theorem dX1_init_13 : decode cX1_init 13 = .ok (.aload_n 0, 1) := by decide +kernel
theorem dX1_init_14 : decode cX1_init 14 = .ok (.iconst 0, 1) := by decide +kernel
theorem dX1_init_15 : decode cX1_init 15 = .ok (.putfield 15, 3) := by decide +kernel
theorem dX1_init_18 : decode cX1_init 18 = .ok (.return_, 1) := by decide +kernel
theorem dX1_hasRoomFor_0 : decode cX1_hasRoomFor 0 = .ok (.aload_n 0, 1) := by decide +kernel
theorem dX1_hasRoomFor_1 : decode cX1_hasRoomFor 1 = .ok (.getfield 15, 3) := by decide +kernel
theorem dX1_hasRoomFor_4 : decode cX1_hasRoomFor 4 = .ok (.iload_n 1, 1) := by decide +kernel
theorem dX1_hasRoomFor_5 : decode cX1_hasRoomFor 5 = .ok (.iadd, 1) := by decide +kernel
theorem dX1_hasRoomFor_6 : decode cX1_hasRoomFor 6 = .ok (.sipush 600, 3) := by decide +kernel
theorem dX1_hasRoomFor_9 : decode cX1_hasRoomFor 9 = .ok (.if_icmp .gt 7, 3) := by decide +kernel
theorem dX1_hasRoomFor_12 : decode cX1_hasRoomFor 12 = .ok (.iconst 1, 1) := by decide +kernel
theorem dX1_hasRoomFor_13 : decode cX1_hasRoomFor 13 = .ok (.goto 4, 3) := by decide +kernel
theorem dX1_hasRoomFor_16 : decode cX1_hasRoomFor 16 = .ok (.iconst 0, 1) := by decide +kernel
theorem dX1_hasRoomFor_17 : decode cX1_hasRoomFor 17 = .ok (.ireturn, 1) := by decide +kernel
theorem dX1_put_0 : decode cX1_put 0 = .ok (.aload_n 0, 1) := by decide +kernel
theorem dX1_put_1 : decode cX1_put 1 = .ok (.getfield 15, 3) := by decide +kernel
theorem dX1_put_4 : decode cX1_put 4 = .ok (.sipush 600, 3) := by decide +kernel
theorem dX1_put_7 : decode cX1_put 7 = .ok (.if_icmp .lt 4, 3) := by decide +kernel
theorem dX1_put_10 : decode cX1_put 10 = .ok (.return_, 1) := by decide +kernel
theorem dX1_put_11 : decode cX1_put 11 = .ok (.aload_n 0, 1) := by decide +kernel
theorem dX1_put_12 : decode cX1_put 12 = .ok (.getfield 11, 3) := by decide +kernel
theorem dX1_put_15 : decode cX1_put 15 = .ok (.aload_n 0, 1) := by decide +kernel
theorem dX1_put_16 : decode cX1_put 16 = .ok (.getfield 15, 3) := by decide +kernel
theorem dX1_put_19 : decode cX1_put 19 = .ok (.iload_n 1, 1) := by decide +kernel
theorem dX1_put_20 : decode cX1_put 20 = .ok (.i2b, 1) := by decide +kernel
theorem dX1_put_21 : decode cX1_put 21 = .ok (.bastore, 1) := by decide +kernel
theorem dX1_put_22 : decode cX1_put 22 = .ok (.aload_n 0, 1) := by decide +kernel
theorem dX1_put_23 : decode cX1_put 23 = .ok (.dup, 1) := by decide +kernel
theorem dX1_put_24 : decode cX1_put 24 = .ok (.getfield 15, 3) := by decide +kernel
theorem dX1_put_27 : decode cX1_put 27 = .ok (.iconst 1, 1) := by decide +kernel
theorem dX1_put_28 : decode cX1_put 28 = .ok (.iadd, 1) := by decide +kernel
theorem dX1_put_29 : decode cX1_put 29 = .ok (.putfield 15, 3) := by decide +kernel
theorem dX1_put_32 : decode cX1_put 32 = .ok (.return_, 1) := by decide +kernel
theorem dX1_putFour_0 : decode cX1_putFour 0 = .ok (.bipush 24, 2) := by decide +kernel
theorem dX1_putFour_2 : decode cX1_putFour 2 = .ok (.istore_n 2, 1) := by decide +kernel
theorem dX1_putFour_3 : decode cX1_putFour 3 = .ok (.iload_n 2, 1) := by decide +kernel
theorem dX1_putFour_4 : decode cX1_putFour 4 = .ok (.ifCond .lt 16, 3) := by decide +kernel
theorem dX1_putFour_7 : decode cX1_putFour 7 = .ok (.aload_n 0, 1) := by decide +kernel
theorem dX1_putFour_8 : decode cX1_putFour 8 = .ok (.iload_n 1, 1) := by decide +kernel
theorem dX1_putFour_9 : decode cX1_putFour 9 = .ok (.iload_n 2, 1) := by decide +kernel
theorem dX1_putFour_10 : decode cX1_putFour 10 = .ok (.iushr, 1) := by decide +kernel
theorem dX1_putFour_11 : decode cX1_putFour 11 = .ok (.invokevirtual 19, 3) := by decide +kernel
theorem dX1_putFour_14 : decode cX1_putFour 14 = .ok (.iinc 2 (-8), 3) := by decide +kernel
theorem dX1_putFour_17 : decode cX1_putFour 17 = .ok (.goto (-14), 3) := by decide +kernel
theorem dX1_putFour_20 : decode cX1_putFour 20 = .ok (.return_, 1) := by decide +kernel
theorem dX1_putText_0 : decode cX1_putText 0 = .ok (.iconst 0, 1) := by decide +kernel
theorem dX1_putText_1 : decode cX1_putText 1 = .ok (.istore_n 2, 1) := by decide +kernel
theorem dX1_putText_2 : decode cX1_putText 2 = .ok (.iload_n 2, 1) := by decide +kernel
theorem dX1_putText_3 : decode cX1_putText 3 = .ok (.aload_n 1, 1) := by decide +kernel
theorem dX1_putText_4 : decode cX1_putText 4 = .ok (.invokevirtual 23, 3) := by decide +kernel
theorem dX1_putText_7 : decode cX1_putText 7 = .ok (.if_icmp .ge 18, 3) := by decide +kernel
theorem dX1_putText_10 : decode cX1_putText 10 = .ok (.aload_n 0, 1) := by decide +kernel
theorem dX1_putText_11 : decode cX1_putText 11 = .ok (.aload_n 1, 1) := by decide +kernel
theorem dX1_putText_12 : decode cX1_putText 12 = .ok (.iload_n 2, 1) := by decide +kernel
theorem dX1_putText_13 : decode cX1_putText 13 = .ok (.invokevirtual 28, 3) := by decide +kernel
theorem dX1_putText_16 : decode cX1_putText 16 = .ok (.invokevirtual 19, 3) := by decide +kernel
theorem dX1_putText_19 : decode cX1_putText 19 = .ok (.iinc 2 1, 3) := by decide +kernel
theorem dX1_putText_22 : decode cX1_putText 22 = .ok (.goto (-20), 3) := by decide +kernel
theorem dX1_putText_25 : decode cX1_putText 25 = .ok (.return_, 1) := by decide +kernel
theorem dX1_at_0 : decode cX1_at 0 = .ok (.iload_n 1, 1) := by decide +kernel
theorem dX1_at_1 : decode cX1_at 1 = .ok (.ifCond .lt 24, 3) := by decide +kernel
theorem dX1_at_4 : decode cX1_at 4 = .ok (.iload_n 1, 1) := by decide +kernel
theorem dX1_at_5 : decode cX1_at 5 = .ok (.aload_n 0, 1) := by decide +kernel
theorem dX1_at_6 : decode cX1_at 6 = .ok (.getfield 15, 3) := by decide +kernel
theorem dX1_at_9 : decode cX1_at 9 = .ok (.if_icmp .ge 16, 3) := by decide +kernel
theorem dX1_at_12 : decode cX1_at 12 = .ok (.aload_n 0, 1) := by decide +kernel
theorem dX1_at_13 : decode cX1_at 13 = .ok (.getfield 11, 3) := by decide +kernel
theorem dX1_at_16 : decode cX1_at 16 = .ok (.iload_n 1, 1) := by decide +kernel
theorem dX1_at_17 : decode cX1_at 17 = .ok (.baload, 1) := by decide +kernel
theorem dX1_at_18 : decode cX1_at 18 = .ok (.sipush 255, 3) := by decide +kernel
theorem dX1_at_21 : decode cX1_at 21 = .ok (.iand, 1) := by decide +kernel
theorem dX1_at_22 : decode cX1_at 22 = .ok (.goto 4, 3) := by decide +kernel
theorem dX1_at_25 : decode cX1_at 25 = .ok (.iconst (-1), 1) := by decide +kernel
theorem dX1_at_26 : decode cX1_at 26 = .ok (.ireturn, 1) := by decide +kernel
theorem dX1_nameBetween_0 : decode cX1_nameBetween 0 = .ok (.iload_n 2, 1) := by decide +kernel
theorem dX1_nameBetween_1 : decode cX1_nameBetween 1 = .ok (.iload_n 1, 1) := by decide +kernel
theorem dX1_nameBetween_2 : decode cX1_nameBetween 2 = .ok (.isub, 1) := by decide +kernel
theorem dX1_nameBetween_3 : decode cX1_nameBetween 3 = .ok (.iconst 4, 1) := by decide +kernel
theorem dX1_nameBetween_4 : decode cX1_nameBetween 4 = .ok (.if_icmp .le 5, 3) := by decide +kernel
theorem dX1_nameBetween_7 : decode cX1_nameBetween 7 = .ok (.iconst 0, 1) := by decide +kernel
theorem dX1_nameBetween_8 : decode cX1_nameBetween 8 = .ok (.ireturn, 1) := by decide +kernel
theorem dX1_nameBetween_9 : decode cX1_nameBetween 9 = .ok (.iconst 0, 1) := by decide +kernel
theorem dX1_nameBetween_10 : decode cX1_nameBetween 10 = .ok (.istore_n 3, 1) := by decide +kernel
theorem dX1_nameBetween_11 : decode cX1_nameBetween 11 = .ok (.iload_n 1, 1) := by decide +kernel
theorem dX1_nameBetween_12 : decode cX1_nameBetween 12 = .ok (.istore 4, 2) := by decide +kernel
theorem dX1_nameBetween_14 : decode cX1_nameBetween 14 = .ok (.iload 4, 2) := by decide +kernel
theorem dX1_nameBetween_16 : decode cX1_nameBetween 16 = .ok (.iload_n 2, 1) := by decide +kernel
theorem dX1_nameBetween_17 : decode cX1_nameBetween 17 = .ok (.if_icmp .ge 35, 3) := by decide +kernel
theorem dX1_nameBetween_20 : decode cX1_nameBetween 20 = .ok (.aload_n 0, 1) := by decide +kernel
theorem dX1_nameBetween_21 : decode cX1_nameBetween 21 = .ok (.iload 4, 2) := by decide +kernel
theorem dX1_nameBetween_23 : decode cX1_nameBetween 23 = .ok (.invokevirtual 33, 3) := by decide +kernel
theorem dX1_nameBetween_26 : decode cX1_nameBetween 26 = .ok (.istore 5, 2) := by decide +kernel
theorem dX1_nameBetween_28 : decode cX1_nameBetween 28 = .ok (.iload 5, 2) := by decide +kernel
theorem dX1_nameBetween_30 : decode cX1_nameBetween 30 = .ok (.invokestatic 37, 3) := by decide +kernel
theorem dX1_nameBetween_33 : decode cX1_nameBetween 33 = .ok (.ifCond .ne 5, 3) := by decide +kernel
theorem dX1_nameBetween_36 : decode cX1_nameBetween 36 = .ok (.iconst 0, 1) := by decide +kernel
theorem dX1_nameBetween_37 : decode cX1_nameBetween 37 = .ok (.ireturn, 1) := by decide +kernel
theorem dX1_nameBetween_38 : decode cX1_nameBetween 38 = .ok (.iload_n 3, 1) := by decide +kernel
theorem dX1_nameBetween_39 : decode cX1_nameBetween 39 = .ok (.bipush 8, 2) := by decide +kernel
theorem dX1_nameBetween_41 : decode cX1_nameBetween 41 = .ok (.ishl, 1) := by decide +kernel
theorem dX1_nameBetween_42 : decode cX1_nameBetween 42 = .ok (.iload 5, 2) := by decide +kernel
theorem dX1_nameBetween_44 : decode cX1_nameBetween 44 = .ok (.ior, 1) := by decide +kernel
theorem dX1_nameBetween_45 : decode cX1_nameBetween 45 = .ok (.istore_n 3, 1) := by decide +kernel
theorem dX1_nameBetween_46 : decode cX1_nameBetween 46 = .ok (.iinc 4 1, 3) := by decide +kernel
theorem dX1_nameBetween_49 : decode cX1_nameBetween 49 = .ok (.goto (-35), 3) := by decide +kernel
theorem dX1_nameBetween_52 : decode cX1_nameBetween 52 = .ok (.iload_n 3, 1) := by decide +kernel
theorem dX1_nameBetween_53 : decode cX1_nameBetween 53 = .ok (.ireturn, 1) := by decide +kernel
theorem dX2_init_0 : decode cX2_init 0 = .ok (.aload_n 0, 1) := by decide +kernel
theorem dX2_init_1 : decode cX2_init 1 = .ok (.invokespecial 3, 3) := by decide +kernel
theorem dX2_init_4 : decode cX2_init 4 = .ok (.aload_n 0, 1) := by decide +kernel
theorem dX2_init_5 : decode cX2_init 5 = .ok (.bipush 6, 2) := by decide +kernel
theorem dX2_init_7 : decode cX2_init 7 = .ok (.newarray .int, 2) := by decide +kernel
theorem dX2_init_9 : decode cX2_init 9 = .ok (.putfield 9, 3) := by decide +kernel
theorem dX2_init_12 : decode cX2_init 12 = .ok (.aload_n 0, 1) := by decide +kernel
theorem dX2_init_13 : decode cX2_init 13 = .ok (.bipush 6, 2) := by decide +kernel
theorem dX2_init_15 : decode cX2_init 15 = .ok (.newarray .int, 2) := by decide +kernel
theorem dX2_init_17 : decode cX2_init 17 = .ok (.putfield 15, 3) := by decide +kernel
theorem dX2_init_20 : decode cX2_init 20 = .ok (.aload_n 0, 1) := by decide +kernel
theorem dX2_init_21 : decode cX2_init 21 = .ok (.bipush 6, 2) := by decide +kernel
theorem dX2_init_23 : decode cX2_init 23 = .ok (.newarray .int, 2) := by decide +kernel
theorem dX2_init_25 : decode cX2_init 25 = .ok (.putfield 18, 3) := by decide +kernel
theorem dX2_init_28 : decode cX2_init 28 = .ok (.aload_n 0, 1) := by decide +kernel
theorem dX2_init_29 : decode cX2_init 29 = .ok (.bipush 6, 2) := by decide +kernel
theorem dX2_init_31 : decode cX2_init 31 = .ok (.newarray .int, 2) := by decide +kernel
theorem dX2_init_33 : decode cX2_init 33 = .ok (.putfield 21, 3) := by decide +kernel
theorem dX2_init_36 : decode cX2_init 36 = .ok (.aload_n 0, 1) := by decide +kernel
theorem dX2_init_37 : decode cX2_init 37 = .ok (.bipush 6, 2) := by decide +kernel
theorem dX2_init_39 : decode cX2_init 39 = .ok (.newarray .int, 2) := by decide +kernel
theorem dX2_init_41 : decode cX2_init 41 = .ok (.putfield 24, 3) := by decide +kernel
theorem dX2_init_44 : decode cX2_init 44 = .ok (.aload_n 0, 1) := by decide +kernel
theorem dX2_init_45 : decode cX2_init 45 = .ok (.iconst 0, 1) := by decide +kernel
theorem dX2_init_46 : decode cX2_init 46 = .ok (.putfield 27, 3) := by decide +kernel
theorem dX2_init_49 : decode cX2_init 49 = .ok (.return_, 1) := by decide +kernel
theorem dX2_numberOf_0 : decode cX2_numberOf 0 = .ok (.aload_n 0, 1) := by decide +kernel
theorem dX2_numberOf_1 : decode cX2_numberOf 1 = .ok (.getfield 9, 3) := by decide +kernel
theorem dX2_numberOf_4 : decode cX2_numberOf 4 = .ok (.aload_n 0, 1) := by decide +kernel
theorem dX2_numberOf_5 : decode cX2_numberOf 5 = .ok (.getfield 27, 3) := by decide +kernel
theorem dX2_numberOf_8 : decode cX2_numberOf 8 = .ok (.iload_n 1, 1) := by decide +kernel
theorem dX2_numberOf_9 : decode cX2_numberOf 9 = .ok (.invokestatic 31, 3) := by decide +kernel
theorem dX2_numberOf_12 : decode cX2_numberOf 12 = .ok (.ireturn, 1) := by decide +kernel
theorem dX2_add_0 : decode cX2_add 0 = .ok (.aload_n 0, 1) := by decide +kernel
theorem dX2_add_1 : decode cX2_add 1 = .ok (.getfield 27, 3) := by decide +kernel
theorem dX2_add_4 : decode cX2_add 4 = .ok (.bipush 6, 2) := by decide +kernel
theorem dX2_add_6 : decode cX2_add 6 = .ok (.if_icmp .lt 4, 3) := by decide +kernel
theorem dX2_add_9 : decode cX2_add 9 = .ok (.return_, 1) := by decide +kernel
theorem dX2_add_10 : decode cX2_add 10 = .ok (.aload_n 0, 1) := by decide +kernel
theorem dX2_add_11 : decode cX2_add 11 = .ok (.getfield 9, 3) := by decide +kernel
theorem dX2_add_14 : decode cX2_add 14 = .ok (.aload_n 0, 1) := by decide +kernel
theorem dX2_add_15 : decode cX2_add 15 = .ok (.getfield 27, 3) := by decide +kernel
theorem dX2_add_18 : decode cX2_add 18 = .ok (.iload_n 1, 1) := by decide +kernel
theorem dX2_add_19 : decode cX2_add 19 = .ok (.iastore, 1) := by decide +kernel
theorem dX2_add_20 : decode cX2_add 20 = .ok (.aload_n 0, 1) := by decide +kernel
theorem dX2_add_21 : decode cX2_add 21 = .ok (.getfield 15, 3) := by decide +kernel
theorem dX2_add_24 : decode cX2_add 24 = .ok (.aload_n 0, 1) := by decide +kernel
theorem dX2_add_25 : decode cX2_add 25 = .ok (.getfield 27, 3) := by decide +kernel
theorem dX2_add_28 : decode cX2_add 28 = .ok (.iload_n 2, 1) := by decide +kernel
theorem dX2_add_29 : decode cX2_add 29 = .ok (.iastore, 1) := by decide +kernel
theorem dX2_add_30 : decode cX2_add 30 = .ok (.aload_n 0, 1) := by decide +kernel
theorem dX2_add_31 : decode cX2_add 31 = .ok (.getfield 18, 3) := by decide +kernel
theorem dX2_add_34 : decode cX2_add 34 = .ok (.aload_n 0, 1) := by decide +kernel
theorem dX2_add_35 : decode cX2_add 35 = .ok (.getfield 27, 3) := by decide +kernel
theorem dX2_add_38 : decode cX2_add 38 = .ok (.iload_n 3, 1) := by decide +kernel
theorem dX2_add_39 : decode cX2_add 39 = .ok (.iastore, 1) := by decide +kernel
theorem dX2_add_40 : decode cX2_add 40 = .ok (.aload_n 0, 1) := by decide +kernel
theorem dX2_add_41 : decode cX2_add 41 = .ok (.getfield 21, 3) := by decide +kernel
theorem dX2_add_44 : decode cX2_add 44 = .ok (.aload_n 0, 1) := by decide +kernel
theorem dX2_add_45 : decode cX2_add 45 = .ok (.getfield 27, 3) := by decide +kernel
theorem dX2_add_48 : decode cX2_add 48 = .ok (.iload 4, 2) := by decide +kernel
theorem dX2_add_50 : decode cX2_add 50 = .ok (.iastore, 1) := by decide +kernel
theorem dX2_add_51 : decode cX2_add 51 = .ok (.aload_n 0, 1) := by decide +kernel
theorem dX2_add_52 : decode cX2_add 52 = .ok (.getfield 24, 3) := by decide +kernel
theorem dX2_add_55 : decode cX2_add 55 = .ok (.aload_n 0, 1) := by decide +kernel
theorem dX2_add_56 : decode cX2_add 56 = .ok (.getfield 27, 3) := by decide +kernel
theorem dX2_add_59 : decode cX2_add 59 = .ok (.iload 5, 2) := by decide +kernel
theorem dX2_add_61 : decode cX2_add 61 = .ok (.iastore, 1) := by decide +kernel
theorem dX2_add_62 : decode cX2_add 62 = .ok (.aload_n 0, 1) := by decide +kernel
theorem dX2_add_63 : decode cX2_add 63 = .ok (.dup, 1) := by decide +kernel
theorem dX2_add_64 : decode cX2_add 64 = .ok (.getfield 27, 3) := by decide +kernel
theorem dX2_add_67 : decode cX2_add 67 = .ok (.iconst 1, 1) := by decide +kernel
theorem dX2_add_68 : decode cX2_add 68 = .ok (.iadd, 1) := by decide +kernel
theorem dX2_add_69 : decode cX2_add 69 = .ok (.putfield 27, 3) := by decide +kernel
theorem dX2_add_72 : decode cX2_add 72 = .ok (.return_, 1) := by decide +kernel
theorem dX2_isHeld_0 : decode cX2_isHeld 0 = .ok (.aload_n 0, 1) := by decide +kernel
theorem dX2_isHeld_1 : decode cX2_isHeld 1 = .ok (.getfield 18, 3) := by decide +kernel
theorem dX2_isHeld_4 : decode cX2_isHeld 4 = .ok (.iload_n 1, 1) := by decide +kernel
theorem dX2_isHeld_5 : decode cX2_isHeld 5 = .ok (.iaload, 1) := by decide +kernel
theorem dX2_isHeld_6 : decode cX2_isHeld 6 = .ok (.istore_n 3, 1) := by decide +kernel
theorem dX2_isHeld_7 : decode cX2_isHeld 7 = .ok (.iload_n 3, 1) := by decide +kernel
theorem dX2_isHeld_8 : decode cX2_isHeld 8 = .ok (.iconst 1, 1) := by decide +kernel
theorem dX2_isHeld_9 : decode cX2_isHeld 9 = .ok (.if_icmp .lt 15, 3) := by decide +kernel
theorem dX2_isHeld_12 : decode cX2_isHeld 12 = .ok (.iload_n 2, 1) := by decide +kernel
theorem dX2_isHeld_13 : decode cX2_isHeld 13 = .ok (.iload_n 1, 1) := by decide +kernel
theorem dX2_isHeld_14 : decode cX2_isHeld 14 = .ok (.iadd, 1) := by decide +kernel
theorem dX2_isHeld_15 : decode cX2_isHeld 15 = .ok (.iload_n 3, 1) := by decide +kernel
theorem dX2_isHeld_16 : decode cX2_isHeld 16 = .ok (.irem, 1) := by decide +kernel
theorem dX2_isHeld_17 : decode cX2_isHeld 17 = .ok (.ifCond .ne 7, 3) := by decide +kernel
theorem dX2_isHeld_20 : decode cX2_isHeld 20 = .ok (.iconst 1, 1) := by decide +kernel
theorem dX2_isHeld_21 : decode cX2_isHeld 21 = .ok (.goto 4, 3) := by decide +kernel
theorem dX2_isHeld_24 : decode cX2_isHeld 24 = .ok (.iconst 0, 1) := by decide +kernel
theorem dX2_isHeld_25 : decode cX2_isHeld 25 = .ok (.ireturn, 1) := by decide +kernel
theorem dX2_takeFrom_0 : decode cX2_takeFrom 0 = .ok (.aload_n 1, 1) := by decide +kernel
theorem dX2_takeFrom_1 : decode cX2_takeFrom 1 = .ok (.getfield 9, 3) := by decide +kernel
theorem dX2_takeFrom_4 : decode cX2_takeFrom 4 = .ok (.iconst 0, 1) := by decide +kernel
theorem dX2_takeFrom_5 : decode cX2_takeFrom 5 = .ok (.aload_n 0, 1) := by decide +kernel
theorem dX2_takeFrom_6 : decode cX2_takeFrom 6 = .ok (.getfield 9, 3) := by decide +kernel
theorem dX2_takeFrom_9 : decode cX2_takeFrom 9 = .ok (.iconst 0, 1) := by decide +kernel
theorem dX2_takeFrom_10 : decode cX2_takeFrom 10 = .ok (.bipush 6, 2) := by decide +kernel
theorem dX2_takeFrom_12 : decode cX2_takeFrom 12 = .ok (.invokestatic 35, 3) := by decide +kernel
theorem dX2_takeFrom_15 : decode cX2_takeFrom 15 = .ok (.aload_n 1, 1) := by decide +kernel
theorem dX2_takeFrom_16 : decode cX2_takeFrom 16 = .ok (.getfield 15, 3) := by decide +kernel
theorem dX2_takeFrom_19 : decode cX2_takeFrom 19 = .ok (.iconst 0, 1) := by decide +kernel
theorem dX2_takeFrom_20 : decode cX2_takeFrom 20 = .ok (.aload_n 0, 1) := by decide +kernel
theorem dX2_takeFrom_21 : decode cX2_takeFrom 21 = .ok (.getfield 15, 3) := by decide +kernel
theorem dX2_takeFrom_24 : decode cX2_takeFrom 24 = .ok (.iconst 0, 1) := by decide +kernel
theorem dX2_takeFrom_25 : decode cX2_takeFrom 25 = .ok (.bipush 6, 2) := by decide +kernel
theorem dX2_takeFrom_27 : decode cX2_takeFrom 27 = .ok (.invokestatic 35, 3) := by decide +kernel
theorem dX2_takeFrom_30 : decode cX2_takeFrom 30 = .ok (.aload_n 1, 1) := by decide +kernel
theorem dX2_takeFrom_31 : decode cX2_takeFrom 31 = .ok (.getfield 18, 3) := by decide +kernel
theorem dX2_takeFrom_34 : decode cX2_takeFrom 34 = .ok (.iconst 0, 1) := by decide +kernel
theorem dX2_takeFrom_35 : decode cX2_takeFrom 35 = .ok (.aload_n 0, 1) := by decide +kernel
theorem dX2_takeFrom_36 : decode cX2_takeFrom 36 = .ok (.getfield 18, 3) := by decide +kernel
theorem dX2_takeFrom_39 : decode cX2_takeFrom 39 = .ok (.iconst 0, 1) := by decide +kernel
theorem dX2_takeFrom_40 : decode cX2_takeFrom 40 = .ok (.bipush 6, 2) := by decide +kernel
theorem dX2_takeFrom_42 : decode cX2_takeFrom 42 = .ok (.invokestatic 35, 3) := by decide +kernel
theorem dX2_takeFrom_45 : decode cX2_takeFrom 45 = .ok (.aload_n 1, 1) := by decide +kernel
theorem dX2_takeFrom_46 : decode cX2_takeFrom 46 = .ok (.getfield 21, 3) := by decide +kernel
theorem dX2_takeFrom_49 : decode cX2_takeFrom 49 = .ok (.iconst 0, 1) := by decide +kernel
theorem dX2_takeFrom_50 : decode cX2_takeFrom 50 = .ok (.aload_n 0, 1) := by decide +kernel
theorem dX2_takeFrom_51 : decode cX2_takeFrom 51 = .ok (.getfield 21, 3) := by decide +kernel
theorem dX2_takeFrom_54 : decode cX2_takeFrom 54 = .ok (.iconst 0, 1) := by decide +kernel
theorem dX2_takeFrom_55 : decode cX2_takeFrom 55 = .ok (.bipush 6, 2) := by decide +kernel
theorem dX2_takeFrom_57 : decode cX2_takeFrom 57 = .ok (.invokestatic 35, 3) := by decide +kernel
theorem dX2_takeFrom_60 : decode cX2_takeFrom 60 = .ok (.aload_n 1, 1) := by decide +kernel
theorem dX2_takeFrom_61 : decode cX2_takeFrom 61 = .ok (.getfield 24, 3) := by decide +kernel
theorem dX2_takeFrom_64 : decode cX2_takeFrom 64 = .ok (.iconst 0, 1) := by decide +kernel
theorem dX2_takeFrom_65 : decode cX2_takeFrom 65 = .ok (.aload_n 0, 1) := by decide +kernel
theorem dX2_takeFrom_66 : decode cX2_takeFrom 66 = .ok (.getfield 24, 3) := by decide +kernel
theorem dX2_takeFrom_69 : decode cX2_takeFrom 69 = .ok (.iconst 0, 1) := by decide +kernel
theorem dX2_takeFrom_70 : decode cX2_takeFrom 70 = .ok (.bipush 6, 2) := by decide +kernel
theorem dX2_takeFrom_72 : decode cX2_takeFrom 72 = .ok (.invokestatic 35, 3) := by decide +kernel
theorem dX2_takeFrom_75 : decode cX2_takeFrom 75 = .ok (.aload_n 0, 1) := by decide +kernel
theorem dX2_takeFrom_76 : decode cX2_takeFrom 76 = .ok (.aload_n 1, 1) := by decide +kernel
theorem dX2_takeFrom_77 : decode cX2_takeFrom 77 = .ok (.getfield 27, 3) := by decide +kernel
theorem dX2_takeFrom_80 : decode cX2_takeFrom 80 = .ok (.putfield 27, 3) := by decide +kernel
theorem dX2_takeFrom_83 : decode cX2_takeFrom 83 = .ok (.return_, 1) := by decide +kernel
theorem dX3_init_0 : decode cX3_init 0 = .ok (.aload_n 0, 1) := by decide +kernel
theorem dX3_init_1 : decode cX3_init 1 = .ok (.invokespecial 1, 3) := by decide +kernel
theorem dX3_init_4 : decode cX3_init 4 = .ok (.aload_n 0, 1) := by decide +kernel
theorem dX3_init_5 : decode cX3_init 5 = .ok (.bipush 8, 2) := by decide +kernel
theorem dX3_init_7 : decode cX3_init 7 = .ok (.anewarray 9, 3) := by decide +kernel
theorem dX3_init_10 : decode cX3_init 10 = .ok (.putfield 11, 3) := by decide +kernel
theorem dX3_init_13 : decode cX3_init 13 = .ok (.aload_n 0, 1) := by decide +kernel
theorem dX3_init_14 : decode cX3_init 14 = .ok (.iconst 0, 1) := by decide +kernel
theorem dX3_init_15 : decode cX3_init 15 = .ok (.putfield 15, 3) := by decide +kernel
theorem dX3_init_18 : decode cX3_init 18 = .ok (.aload_n 0, 1) := by decide +kernel
theorem dX3_init_19 : decode cX3_init 19 = .ok (.iconst 0, 1) := by decide +kernel
theorem dX3_init_20 : decode cX3_init 20 = .ok (.putfield 19, 3) := by decide +kernel
theorem dX3_init_23 : decode cX3_init 23 = .ok (.iconst 0, 1) := by decide +kernel
theorem dX3_init_24 : decode cX3_init 24 = .ok (.istore_n 1, 1) := by decide +kernel
theorem dX3_init_25 : decode cX3_init 25 = .ok (.iload_n 1, 1) := by decide +kernel
theorem dX3_init_26 : decode cX3_init 26 = .ok (.bipush 8, 2) := by decide +kernel
theorem dX3_init_28 : decode cX3_init 28 = .ok (.if_icmp .ge 22, 3) := by decide +kernel
theorem dX3_init_31 : decode cX3_init 31 = .ok (.aload_n 0, 1) := by decide +kernel
theorem dX3_init_32 : decode cX3_init 32 = .ok (.getfield 11, 3) := by decide +kernel
theorem dX3_init_35 : decode cX3_init 35 = .ok (.iload_n 1, 1) := by decide +kernel
theorem dX3_init_36 : decode cX3_init 36 = .ok (.new 9, 3) := by decide +kernel
theorem dX3_init_39 : decode cX3_init 39 = .ok (.dup, 1) := by decide +kernel
theorem dX3_init_40 : decode cX3_init 40 = .ok (.invokespecial 22, 3) := by decide +kernel
theorem dX3_init_43 : decode cX3_init 43 = .ok (.aastore, 1) := by decide +kernel
theorem dX3_init_44 : decode cX3_init 44 = .ok (.iinc 1 1, 3) := by decide +kernel
theorem dX3_init_47 : decode cX3_init 47 = .ok (.goto (-22), 3) := by decide +kernel
theorem dX3_init_50 : decode cX3_init 50 = .ok (.return_, 1) := by decide +kernel
theorem dX3_remember_0 : decode cX3_remember 0 = .ok (.aload_n 0, 1) := by decide +kernel
theorem dX3_remember_1 : decode cX3_remember 1 = .ok (.getfield 11, 3) := by decide +kernel
theorem dX3_remember_4 : decode cX3_remember 4 = .ok (.aload_n 0, 1) := by decide +kernel
theorem dX3_remember_5 : decode cX3_remember 5 = .ok (.getfield 15, 3) := by decide +kernel
theorem dX3_remember_8 : decode cX3_remember 8 = .ok (.aaload, 1) := by decide +kernel
theorem dX3_remember_9 : decode cX3_remember 9 = .ok (.aload_n 1, 1) := by decide +kernel
theorem dX3_remember_10 : decode cX3_remember 10 = .ok (.invokevirtual 23, 3) := by decide +kernel
theorem dX3_remember_13 : decode cX3_remember 13 = .ok (.aload_n 0, 1) := by decide +kernel
theorem dX3_remember_14 : decode cX3_remember 14 = .ok (.aload_n 0, 1) := by decide +kernel
theorem dX3_remember_15 : decode cX3_remember 15 = .ok (.getfield 15, 3) := by decide +kernel
theorem dX3_remember_18 : decode cX3_remember 18 = .ok (.iconst 1, 1) := by decide +kernel
theorem dX3_remember_19 : decode cX3_remember 19 = .ok (.iadd, 1) := by decide +kernel
theorem dX3_remember_20 : decode cX3_remember 20 = .ok (.bipush 8, 2) := by decide +kernel
theorem dX3_remember_22 : decode cX3_remember 22 = .ok (.irem, 1) := by decide +kernel
theorem dX3_remember_23 : decode cX3_remember 23 = .ok (.putfield 15, 3) := by decide +kernel
theorem dX3_remember_26 : decode cX3_remember 26 = .ok (.aload_n 0, 1) := by decide +kernel
theorem dX3_remember_27 : decode cX3_remember 27 = .ok (.getfield 19, 3) := by decide +kernel
theorem dX3_remember_30 : decode cX3_remember 30 = .ok (.bipush 8, 2) := by decide +kernel
theorem dX3_remember_32 : decode cX3_remember 32 = .ok (.if_icmp .ge 13, 3) := by decide +kernel
theorem dX3_remember_35 : decode cX3_remember 35 = .ok (.aload_n 0, 1) := by decide +kernel
theorem dX3_remember_36 : decode cX3_remember 36 = .ok (.dup, 1) := by decide +kernel
theorem dX3_remember_37 : decode cX3_remember 37 = .ok (.getfield 19, 3) := by decide +kernel
theorem dX3_remember_40 : decode cX3_remember 40 = .ok (.iconst 1, 1) := by decide +kernel
theorem dX3_remember_41 : decode cX3_remember 41 = .ok (.iadd, 1) := by decide +kernel
theorem dX3_remember_42 : decode cX3_remember 42 = .ok (.putfield 19, 3) := by decide +kernel
theorem dX3_remember_45 : decode cX3_remember 45 = .ok (.return_, 1) := by decide +kernel
theorem dX4_init_0 : decode cX4_init 0 = .ok (.aload_n 0, 1) := by decide +kernel
theorem dX4_init_1 : decode cX4_init 1 = .ok (.invokespecial 1, 3) := by decide +kernel
theorem dX4_init_4 : decode cX4_init 4 = .ok (.aload_n 0, 1) := by decide +kernel
theorem dX4_init_5 : decode cX4_init 5 = .ok (.bipush 10, 2) := by decide +kernel
theorem dX4_init_7 : decode cX4_init 7 = .ok (.newarray .int, 2) := by decide +kernel
theorem dX4_init_9 : decode cX4_init 9 = .ok (.putfield 9, 3) := by decide +kernel
theorem dX4_init_12 : decode cX4_init 12 = .ok (.aload_n 0, 1) := by decide +kernel
theorem dX4_init_13 : decode cX4_init 13 = .ok (.iconst 0, 1) := by decide +kernel
theorem dX4_init_14 : decode cX4_init 14 = .ok (.putfield 13, 3) := by decide +kernel
theorem dX4_init_17 : decode cX4_init 17 = .ok (.return_, 1) := by decide +kernel
theorem dX4_add_0 : decode cX4_add 0 = .ok (.aload_n 0, 1) := by decide +kernel
theorem dX4_add_1 : decode cX4_add 1 = .ok (.getfield 13, 3) := by decide +kernel
theorem dX4_add_4 : decode cX4_add 4 = .ok (.bipush 10, 2) := by decide +kernel
theorem dX4_add_6 : decode cX4_add 6 = .ok (.if_icmp .lt 24, 3) := by decide +kernel
theorem dX4_add_9 : decode cX4_add 9 = .ok (.aload_n 0, 1) := by decide +kernel
theorem dX4_add_10 : decode cX4_add 10 = .ok (.getfield 9, 3) := by decide +kernel
theorem dX4_add_13 : decode cX4_add 13 = .ok (.iconst 1, 1) := by decide +kernel
theorem dX4_add_14 : decode cX4_add 14 = .ok (.aload_n 0, 1) := by decide +kernel
theorem dX4_add_15 : decode cX4_add 15 = .ok (.getfield 9, 3) := by decide +kernel
theorem dX4_add_18 : decode cX4_add 18 = .ok (.iconst 0, 1) := by decide +kernel
theorem dX4_add_19 : decode cX4_add 19 = .ok (.bipush 9, 2) := by decide +kernel
theorem dX4_add_21 : decode cX4_add 21 = .ok (.invokestatic 17, 3) := by decide +kernel
theorem dX4_add_24 : decode cX4_add 24 = .ok (.aload_n 0, 1) := by decide +kernel
theorem dX4_add_25 : decode cX4_add 25 = .ok (.bipush 9, 2) := by decide +kernel
theorem dX4_add_27 : decode cX4_add 27 = .ok (.putfield 13, 3) := by decide +kernel
theorem dX4_add_30 : decode cX4_add 30 = .ok (.aload_n 0, 1) := by decide +kernel
theorem dX4_add_31 : decode cX4_add 31 = .ok (.getfield 9, 3) := by decide +kernel
theorem dX4_add_34 : decode cX4_add 34 = .ok (.aload_n 0, 1) := by decide +kernel
theorem dX4_add_35 : decode cX4_add 35 = .ok (.getfield 13, 3) := by decide +kernel
theorem dX4_add_38 : decode cX4_add 38 = .ok (.iload_n 1, 1) := by decide +kernel
theorem dX4_add_39 : decode cX4_add 39 = .ok (.iload_n 2, 1) := by decide +kernel
theorem dX4_add_40 : decode cX4_add 40 = .ok (.invokestatic 23, 3) := by decide +kernel
theorem dX4_add_43 : decode cX4_add 43 = .ok (.iastore, 1) := by decide +kernel
theorem dX4_add_44 : decode cX4_add 44 = .ok (.aload_n 0, 1) := by decide +kernel
theorem dX4_add_45 : decode cX4_add 45 = .ok (.dup, 1) := by decide +kernel
theorem dX4_add_46 : decode cX4_add 46 = .ok (.getfield 13, 3) := by decide +kernel
theorem dX4_add_49 : decode cX4_add 49 = .ok (.iconst 1, 1) := by decide +kernel
theorem dX4_add_50 : decode cX4_add 50 = .ok (.iadd, 1) := by decide +kernel
theorem dX4_add_51 : decode cX4_add 51 = .ok (.putfield 13, 3) := by decide +kernel
theorem dX4_add_54 : decode cX4_add 54 = .ok (.return_, 1) := by decide +kernel
theorem dX4_takeFrom_0 : decode cX4_takeFrom 0 = .ok (.aload_n 1, 1) := by decide +kernel
theorem dX4_takeFrom_1 : decode cX4_takeFrom 1 = .ok (.getfield 9, 3) := by decide +kernel
theorem dX4_takeFrom_4 : decode cX4_takeFrom 4 = .ok (.iconst 0, 1) := by decide +kernel
theorem dX4_takeFrom_5 : decode cX4_takeFrom 5 = .ok (.aload_n 0, 1) := by decide +kernel
theorem dX4_takeFrom_6 : decode cX4_takeFrom 6 = .ok (.getfield 9, 3) := by decide +kernel
theorem dX4_takeFrom_9 : decode cX4_takeFrom 9 = .ok (.iconst 0, 1) := by decide +kernel
theorem dX4_takeFrom_10 : decode cX4_takeFrom 10 = .ok (.bipush 10, 2) := by decide +kernel
theorem dX4_takeFrom_12 : decode cX4_takeFrom 12 = .ok (.invokestatic 17, 3) := by decide +kernel
theorem dX4_takeFrom_15 : decode cX4_takeFrom 15 = .ok (.aload_n 0, 1) := by decide +kernel
theorem dX4_takeFrom_16 : decode cX4_takeFrom 16 = .ok (.aload_n 1, 1) := by decide +kernel
theorem dX4_takeFrom_17 : decode cX4_takeFrom 17 = .ok (.getfield 13, 3) := by decide +kernel
theorem dX4_takeFrom_20 : decode cX4_takeFrom 20 = .ok (.putfield 13, 3) := by decide +kernel
theorem dX4_takeFrom_23 : decode cX4_takeFrom 23 = .ok (.return_, 1) := by decide +kernel
theorem dX5_init_0 : decode cX5_init 0 = .ok (.aload_n 0, 1) := by decide +kernel
theorem dX5_init_1 : decode cX5_init 1 = .ok (.invokespecial 3, 3) := by decide +kernel
theorem dX5_init_4 : decode cX5_init 4 = .ok (.aload_n 0, 1) := by decide +kernel
theorem dX5_init_5 : decode cX5_init 5 = .ok (.iconst 0, 1) := by decide +kernel
theorem dX5_init_6 : decode cX5_init 6 = .ok (.putfield 9, 3) := by decide +kernel
theorem dX5_init_9 : decode cX5_init 9 = .ok (.aload_n 0, 1) := by decide +kernel
theorem dX5_init_10 : decode cX5_init 10 = .ok (.iconst (-1), 1) := by decide +kernel
theorem dX5_init_11 : decode cX5_init 11 = .ok (.putfield 15, 3) := by decide +kernel
theorem dX5_init_14 : decode cX5_init 14 = .ok (.aload_n 0, 1) := by decide +kernel
theorem dX5_init_15 : decode cX5_init 15 = .ok (.new 18, 3) := by decide +kernel
theorem dX5_init_18 : decode cX5_init 18 = .ok (.dup, 1) := by decide +kernel
theorem dX5_init_19 : decode cX5_init 19 = .ok (.aload_n 1, 1) := by decide +kernel
theorem dX5_init_20 : decode cX5_init 20 = .ok (.invokespecial 20, 3) := by decide +kernel
theorem dX5_init_23 : decode cX5_init 23 = .ok (.putfield 23, 3) := by decide +kernel
theorem dX5_init_26 : decode cX5_init 26 = .ok (.aload_n 0, 1) := by decide +kernel
theorem dX5_init_27 : decode cX5_init 27 = .ok (.aload_n 2, 1) := by decide +kernel
theorem dX5_init_28 : decode cX5_init 28 = .ok (.putfield 27, 3) := by decide +kernel
theorem dX5_init_31 : decode cX5_init 31 = .ok (.return_, 1) := by decide +kernel
theorem dX5_readText_0 : decode cX5_readText 0 = .ok (.aload_n 0, 1) := by decide +kernel
theorem dX5_readText_1 : decode cX5_readText 1 = .ok (.invokevirtual 31, 3) := by decide +kernel
theorem dX5_readText_4 : decode cX5_readText 4 = .ok (.ifCond .ne 5, 3) := by decide +kernel
theorem dX5_readText_7 : decode cX5_readText 7 = .ok (.iconst 0, 1) := by decide +kernel
theorem dX5_readText_8 : decode cX5_readText 8 = .ok (.ireturn, 1) := by decide +kernel
theorem dX5_readText_9 : decode cX5_readText 9 = .ok (.aload_n 0, 1) := by decide +kernel
theorem dX5_readText_10 : decode cX5_readText 10 = .ok (.getfield 23, 3) := by decide +kernel
theorem dX5_readText_13 : decode cX5_readText 13 = .ok (.invokevirtual 35, 3) := by decide +kernel
theorem dX5_readText_16 : decode cX5_readText 16 = .ok (.iconst 0, 1) := by decide +kernel
theorem dX5_readText_17 : decode cX5_readText 17 = .ok (.istore_n 1, 1) := by decide +kernel
theorem dX5_readText_18 : decode cX5_readText 18 = .ok (.iload_n 1, 1) := by decide +kernel
theorem dX5_readText_19 : decode cX5_readText 19 = .ok (.sipush 600, 3) := by decide +kernel
theorem dX5_readText_22 : decode cX5_readText 22 = .ok (.if_icmp .ge 35, 3) := by decide +kernel
theorem dX5_readText_25 : decode cX5_readText 25 = .ok (.aload_n 0, 1) := by decide +kernel
theorem dX5_readText_26 : decode cX5_readText 26 = .ok (.getfield 23, 3) := by decide +kernel
theorem dX5_readText_29 : decode cX5_readText 29 = .ok (.getfield 40, 3) := by decide +kernel
theorem dX5_readText_32 : decode cX5_readText 32 = .ok (.ifCond .eq 25, 3) := by decide +kernel
theorem dX5_readText_35 : decode cX5_readText 35 = .ok (.aload_n 0, 1) := by decide +kernel
theorem dX5_readText_36 : decode cX5_readText 36 = .ok (.invokevirtual 43, 3) := by decide +kernel
theorem dX5_readText_39 : decode cX5_readText 39 = .ok (.ifCond .ne 5, 3) := by decide +kernel
theorem dX5_readText_42 : decode cX5_readText 42 = .ok (.iconst 0, 1) := by decide +kernel
theorem dX5_readText_43 : decode cX5_readText 43 = .ok (.ireturn, 1) := by decide +kernel
theorem dX5_readText_44 : decode cX5_readText 44 = .ok (.aload_n 0, 1) := by decide +kernel
theorem dX5_readText_45 : decode cX5_readText 45 = .ok (.getfield 23, 3) := by decide +kernel
theorem dX5_readText_48 : decode cX5_readText 48 = .ok (.invokevirtual 35, 3) := by decide +kernel
theorem dX5_readText_51 : decode cX5_readText 51 = .ok (.iinc 1 1, 3) := by decide +kernel
theorem dX5_readText_54 : decode cX5_readText 54 = .ok (.goto (-36), 3) := by decide +kernel
theorem dX5_readText_57 : decode cX5_readText 57 = .ok (.iconst 1, 1) := by decide +kernel
theorem dX5_readText_58 : decode cX5_readText 58 = .ok (.ireturn, 1) := by decide +kernel
theorem dX5_readAlmanac_0 : decode cX5_readAlmanac 0 = .ok (.aload_n 0, 1) := by decide +kernel
theorem dX5_readAlmanac_1 : decode cX5_readAlmanac 1 = .ok (.getfield 23, 3) := by decide +kernel
theorem dX5_readAlmanac_4 : decode cX5_readAlmanac 4 = .ok (.invokevirtual 35, 3) := by decide +kernel
theorem dX5_readAlmanac_7 : decode cX5_readAlmanac 7 = .ok (.aload_n 0, 1) := by decide +kernel
theorem dX5_readAlmanac_8 : decode cX5_readAlmanac 8 = .ok (.getfield 23, 3) := by decide +kernel
theorem dX5_readAlmanac_11 : decode cX5_readAlmanac 11 = .ok (.ldc 46, 2) := by decide +kernel
theorem dX5_readAlmanac_13 : decode cX5_readAlmanac 13 = .ok (.invokevirtual 48, 3) := by decide +kernel
theorem dX5_readAlmanac_16 : decode cX5_readAlmanac 16 = .ok (.ifCond .ne 9, 3) := by decide +kernel
theorem dX5_readAlmanac_19 : decode cX5_readAlmanac 19 = .ok (.aload_n 0, 1) := by decide +kernel
theorem dX5_readAlmanac_20 : decode cX5_readAlmanac 20 = .ok (.iconst 1, 1) := by decide +kernel
theorem dX5_readAlmanac_21 : decode cX5_readAlmanac 21 = .ok (.invokevirtual 52, 3) := by decide +kernel
theorem dX5_readAlmanac_24 : decode cX5_readAlmanac 24 = .ok (.ireturn, 1) := by decide +kernel
theorem dX5_readAlmanac_25 : decode cX5_readAlmanac 25 = .ok (.aload_n 0, 1) := by decide +kernel
theorem dX5_readAlmanac_26 : decode cX5_readAlmanac 26 = .ok (.iconst 0, 1) := by decide +kernel
theorem dX5_readAlmanac_27 : decode cX5_readAlmanac 27 = .ok (.sipush 1023, 3) := by decide +kernel
theorem dX5_readAlmanac_30 : decode cX5_readAlmanac 30 = .ok (.invokevirtual 56, 3) := by decide +kernel
theorem dX5_readAlmanac_33 : decode cX5_readAlmanac 33 = .ok (.ifCond .ne 5, 3) := by decide +kernel
theorem dX5_readAlmanac_36 : decode cX5_readAlmanac 36 = .ok (.iconst 0, 1) := by decide +kernel
theorem dX5_readAlmanac_37 : decode cX5_readAlmanac 37 = .ok (.ireturn, 1) := by decide +kernel
theorem dX5_readAlmanac_38 : decode cX5_readAlmanac 38 = .ok (.aload_n 0, 1) := by decide +kernel
theorem dX5_readAlmanac_39 : decode cX5_readAlmanac 39 = .ok (.getfield 27, 3) := by decide +kernel
theorem dX5_readAlmanac_42 : decode cX5_readAlmanac 42 = .ok (.getfield 60, 3) := by decide +kernel
theorem dX5_readAlmanac_45 : decode cX5_readAlmanac 45 = .ok (.aload_n 0, 1) := by decide +kernel
theorem dX5_readAlmanac_46 : decode cX5_readAlmanac 46 = .ok (.getfield 23, 3) := by decide +kernel
theorem dX5_readAlmanac_49 : decode cX5_readAlmanac 49 = .ok (.getfield 66, 3) := by decide +kernel
theorem dX5_readAlmanac_52 : decode cX5_readAlmanac 52 = .ok (.putfield 69, 3) := by decide +kernel
theorem dX5_readAlmanac_55 : decode cX5_readAlmanac 55 = .ok (.iconst 0, 1) := by decide +kernel
theorem dX5_readAlmanac_56 : decode cX5_readAlmanac 56 = .ok (.istore_n 1, 1) := by decide +kernel
theorem dX5_readAlmanac_57 : decode cX5_readAlmanac 57 = .ok (.iload_n 1, 1) := by decide +kernel
theorem dX5_readAlmanac_58 : decode cX5_readAlmanac 58 = .ok (.iconst 2, 1) := by decide +kernel
theorem dX5_readAlmanac_59 : decode cX5_readAlmanac 59 = .ok (.if_icmp .gt 40, 3) := by decide +kernel
theorem dX5_readAlmanac_62 : decode cX5_readAlmanac 62 = .ok (.aload_n 0, 1) := by decide +kernel
theorem dX5_readAlmanac_63 : decode cX5_readAlmanac 63 = .ok (.iconst 0, 1) := by decide +kernel
theorem dX5_readAlmanac_64 : decode cX5_readAlmanac 64 = .ok (.bipush 20, 2) := by decide +kernel
theorem dX5_readAlmanac_66 : decode cX5_readAlmanac 66 = .ok (.invokevirtual 56, 3) := by decide +kernel
theorem dX5_readAlmanac_69 : decode cX5_readAlmanac 69 = .ok (.ifCond .ne 5, 3) := by decide +kernel
theorem dX5_readAlmanac_72 : decode cX5_readAlmanac 72 = .ok (.iconst 0, 1) := by decide +kernel
theorem dX5_readAlmanac_73 : decode cX5_readAlmanac 73 = .ok (.ireturn, 1) := by decide +kernel
theorem dX5_readAlmanac_74 : decode cX5_readAlmanac 74 = .ok (.aload_n 0, 1) := by decide +kernel
theorem dX5_readAlmanac_75 : decode cX5_readAlmanac 75 = .ok (.getfield 27, 3) := by decide +kernel
theorem dX5_readAlmanac_78 : decode cX5_readAlmanac 78 = .ok (.getfield 60, 3) := by decide +kernel
theorem dX5_readAlmanac_81 : decode cX5_readAlmanac 81 = .ok (.getfield 74, 3) := by decide +kernel
theorem dX5_readAlmanac_84 : decode cX5_readAlmanac 84 = .ok (.iload_n 1, 1) := by decide +kernel
theorem dX5_readAlmanac_85 : decode cX5_readAlmanac 85 = .ok (.aload_n 0, 1) := by decide +kernel
theorem dX5_readAlmanac_86 : decode cX5_readAlmanac 86 = .ok (.getfield 23, 3) := by decide +kernel
theorem dX5_readAlmanac_89 : decode cX5_readAlmanac 89 = .ok (.getfield 66, 3) := by decide +kernel
theorem dX5_readAlmanac_92 : decode cX5_readAlmanac 92 = .ok (.iastore, 1) := by decide +kernel
theorem dX5_readAlmanac_93 : decode cX5_readAlmanac 93 = .ok (.iinc 1 1, 3) := by decide +kernel
theorem dX5_readAlmanac_96 : decode cX5_readAlmanac 96 = .ok (.goto (-39), 3) := by decide +kernel
theorem dX5_readAlmanac_99 : decode cX5_readAlmanac 99 = .ok (.aload_n 0, 1) := by decide +kernel
theorem dX5_readAlmanac_100 : decode cX5_readAlmanac 100 = .ok (.getfield 27, 3) := by decide +kernel
theorem dX5_readAlmanac_103 : decode cX5_readAlmanac 103 = .ok (.getfield 60, 3) := by decide +kernel
theorem dX5_readAlmanac_106 : decode cX5_readAlmanac 106 = .ok (.invokevirtual 78, 3) := by decide +kernel
theorem dX5_readAlmanac_109 : decode cX5_readAlmanac 109 = .ok (.ifCond .ne 9, 3) := by decide +kernel
theorem dX5_readAlmanac_112 : decode cX5_readAlmanac 112 = .ok (.aload_n 0, 1) := by decide +kernel
theorem dX5_readAlmanac_113 : decode cX5_readAlmanac 113 = .ok (.iconst 2, 1) := by decide +kernel
theorem dX5_readAlmanac_114 : decode cX5_readAlmanac 114 = .ok (.invokevirtual 52, 3) := by decide +kernel
theorem dX5_readAlmanac_117 : decode cX5_readAlmanac 117 = .ok (.ireturn, 1) := by decide +kernel
theorem dX5_readAlmanac_118 : decode cX5_readAlmanac 118 = .ok (.aload_n 0, 1) := by decide +kernel
theorem dX5_readAlmanac_119 : decode cX5_readAlmanac 119 = .ok (.invokevirtual 82, 3) := by decide +kernel
theorem dX5_readAlmanac_122 : decode cX5_readAlmanac 122 = .ok (.ireturn, 1) := by decide +kernel
theorem dX5_readStatement_0 : decode cX5_readStatement 0 = .ok (.aload_n 0, 1) := by decide +kernel
theorem dX5_readStatement_1 : decode cX5_readStatement 1 = .ok (.getfield 23, 3) := by decide +kernel
theorem dX5_readStatement_4 : decode cX5_readStatement 4 = .ok (.ldc 85, 2) := by decide +kernel
theorem dX5_readStatement_6 : decode cX5_readStatement 6 = .ok (.invokevirtual 48, 3) := by decide +kernel
theorem dX5_readStatement_9 : decode cX5_readStatement 9 = .ok (.ifCond .eq 8, 3) := by decide +kernel
theorem dX5_readStatement_12 : decode cX5_readStatement 12 = .ok (.aload_n 0, 1) := by decide +kernel
theorem dX5_readStatement_13 : decode cX5_readStatement 13 = .ok (.invokevirtual 87, 3) := by decide +kernel
theorem dX5_readStatement_16 : decode cX5_readStatement 16 = .ok (.ireturn, 1) := by decide +kernel
theorem dX5_readStatement_17 : decode cX5_readStatement 17 = .ok (.aload_n 0, 1) := by decide +kernel
theorem dX5_readStatement_18 : decode cX5_readStatement 18 = .ok (.getfield 23, 3) := by decide +kernel
theorem dX5_readStatement_21 : decode cX5_readStatement 21 = .ok (.ldc 90, 2) := by decide +kernel
theorem dX5_readStatement_23 : decode cX5_readStatement 23 = .ok (.invokevirtual 48, 3) := by decide +kernel
theorem dX5_readStatement_26 : decode cX5_readStatement 26 = .ok (.ifCond .eq 8, 3) := by decide +kernel
theorem dX5_readStatement_29 : decode cX5_readStatement 29 = .ok (.aload_n 0, 1) := by decide +kernel
theorem dX5_readStatement_30 : decode cX5_readStatement 30 = .ok (.invokevirtual 92, 3) := by decide +kernel
theorem dX5_readStatement_33 : decode cX5_readStatement 33 = .ok (.ireturn, 1) := by decide +kernel
theorem dX5_readStatement_34 : decode cX5_readStatement 34 = .ok (.aload_n 0, 1) := by decide +kernel
theorem dX5_readStatement_35 : decode cX5_readStatement 35 = .ok (.getfield 23, 3) := by decide +kernel
theorem dX5_readStatement_38 : decode cX5_readStatement 38 = .ok (.ldc 95, 2) := by decide +kernel
theorem dX5_readStatement_40 : decode cX5_readStatement 40 = .ok (.invokevirtual 48, 3) := by decide +kernel
theorem dX5_readStatement_43 : decode cX5_readStatement 43 = .ok (.ifCond .eq 8, 3) := by decide +kernel
theorem dX5_readStatement_46 : decode cX5_readStatement 46 = .ok (.aload_n 0, 1) := by decide +kernel
theorem dX5_readStatement_47 : decode cX5_readStatement 47 = .ok (.invokevirtual 97, 3) := by decide +kernel
theorem dX5_readStatement_50 : decode cX5_readStatement 50 = .ok (.ireturn, 1) := by decide +kernel
theorem dX5_readStatement_51 : decode cX5_readStatement 51 = .ok (.aload_n 0, 1) := by decide +kernel
theorem dX5_readStatement_52 : decode cX5_readStatement 52 = .ok (.getfield 23, 3) := by decide +kernel
theorem dX5_readStatement_55 : decode cX5_readStatement 55 = .ok (.ldc 100, 2) := by decide +kernel
theorem dX5_readStatement_57 : decode cX5_readStatement 57 = .ok (.invokevirtual 48, 3) := by decide +kernel
theorem dX5_readStatement_60 : decode cX5_readStatement 60 = .ok (.ifCond .eq 8, 3) := by decide +kernel
theorem dX5_readStatement_63 : decode cX5_readStatement 63 = .ok (.aload_n 0, 1) := by decide +kernel
theorem dX5_readStatement_64 : decode cX5_readStatement 64 = .ok (.invokevirtual 102, 3) := by decide +kernel
theorem dX5_readStatement_67 : decode cX5_readStatement 67 = .ok (.ireturn, 1) := by decide +kernel
theorem dX5_readStatement_68 : decode cX5_readStatement 68 = .ok (.aload_n 0, 1) := by decide +kernel
theorem dX5_readStatement_69 : decode cX5_readStatement 69 = .ok (.getfield 23, 3) := by decide +kernel
theorem dX5_readStatement_72 : decode cX5_readStatement 72 = .ok (.ldc 105, 2) := by decide +kernel
theorem dX5_readStatement_74 : decode cX5_readStatement 74 = .ok (.invokevirtual 48, 3) := by decide +kernel
theorem dX5_readStatement_77 : decode cX5_readStatement 77 = .ok (.ifCond .eq 8, 3) := by decide +kernel
theorem dX5_readStatement_80 : decode cX5_readStatement 80 = .ok (.aload_n 0, 1) := by decide +kernel
theorem dX5_readStatement_81 : decode cX5_readStatement 81 = .ok (.invokevirtual 107, 3) := by decide +kernel
theorem dX5_readStatement_84 : decode cX5_readStatement 84 = .ok (.ireturn, 1) := by decide +kernel
theorem dX5_readStatement_85 : decode cX5_readStatement 85 = .ok (.aload_n 0, 1) := by decide +kernel
theorem dX5_readStatement_86 : decode cX5_readStatement 86 = .ok (.iconst 1, 1) := by decide +kernel
theorem dX5_readStatement_87 : decode cX5_readStatement 87 = .ok (.invokevirtual 52, 3) := by decide +kernel
theorem dX5_readStatement_90 : decode cX5_readStatement 90 = .ok (.ireturn, 1) := by decide +kernel
theorem dX5_readVillage_0 : decode cX5_readVillage 0 = .ok (.aload_n 0, 1) := by decide +kernel
theorem dX5_readVillage_1 : decode cX5_readVillage 1 = .ok (.getfield 27, 3) := by decide +kernel
theorem dX5_readVillage_4 : decode cX5_readVillage 4 = .ok (.getfield 110, 3) := by decide +kernel
theorem dX5_readVillage_7 : decode cX5_readVillage 7 = .ok (.getfield 114, 3) := by decide +kernel
theorem dX5_readVillage_10 : decode cX5_readVillage 10 = .ok (.bipush 6, 2) := by decide +kernel
theorem dX5_readVillage_12 : decode cX5_readVillage 12 = .ok (.if_icmp .lt 9, 3) := by decide +kernel
theorem dX5_readVillage_15 : decode cX5_readVillage 15 = .ok (.aload_n 0, 1) := by decide +kernel
theorem dX5_readVillage_16 : decode cX5_readVillage 16 = .ok (.iconst 5, 1) := by decide +kernel
theorem dX5_readVillage_17 : decode cX5_readVillage 17 = .ok (.invokevirtual 52, 3) := by decide +kernel
theorem dX5_readVillage_20 : decode cX5_readVillage 20 = .ok (.ireturn, 1) := by decide +kernel
theorem dX5_readVillage_21 : decode cX5_readVillage 21 = .ok (.aload_n 0, 1) := by decide +kernel
theorem dX5_readVillage_22 : decode cX5_readVillage 22 = .ok (.invokevirtual 119, 3) := by decide +kernel
theorem dX5_readVillage_25 : decode cX5_readVillage 25 = .ok (.ifCond .ne 5, 3) := by decide +kernel
theorem dX5_readVillage_28 : decode cX5_readVillage 28 = .ok (.iconst 0, 1) := by decide +kernel
theorem dX5_readVillage_29 : decode cX5_readVillage 29 = .ok (.ireturn, 1) := by decide +kernel
theorem dX5_readVillage_30 : decode cX5_readVillage 30 = .ok (.aload_n 0, 1) := by decide +kernel
theorem dX5_readVillage_31 : decode cX5_readVillage 31 = .ok (.getfield 23, 3) := by decide +kernel
theorem dX5_readVillage_34 : decode cX5_readVillage 34 = .ok (.invokevirtual 122, 3) := by decide +kernel
theorem dX5_readVillage_37 : decode cX5_readVillage 37 = .ok (.istore_n 1, 1) := by decide +kernel
theorem dX5_readVillage_38 : decode cX5_readVillage 38 = .ok (.aload_n 0, 1) := by decide +kernel
theorem dX5_readVillage_39 : decode cX5_readVillage 39 = .ok (.iconst 1, 1) := by decide +kernel
theorem dX5_readVillage_40 : decode cX5_readVillage 40 = .ok (.bipush 99, 2) := by decide +kernel
theorem dX5_readVillage_42 : decode cX5_readVillage 42 = .ok (.invokevirtual 56, 3) := by decide +kernel
theorem dX5_readVillage_45 : decode cX5_readVillage 45 = .ok (.ifCond .ne 5, 3) := by decide +kernel
theorem dX5_readVillage_48 : decode cX5_readVillage 48 = .ok (.iconst 0, 1) := by decide +kernel
theorem dX5_readVillage_49 : decode cX5_readVillage 49 = .ok (.ireturn, 1) := by decide +kernel
theorem dX5_readVillage_50 : decode cX5_readVillage 50 = .ok (.aload_n 0, 1) := by decide +kernel
theorem dX5_readVillage_51 : decode cX5_readVillage 51 = .ok (.getfield 23, 3) := by decide +kernel
theorem dX5_readVillage_54 : decode cX5_readVillage 54 = .ok (.getfield 66, 3) := by decide +kernel
theorem dX5_readVillage_57 : decode cX5_readVillage 57 = .ok (.istore_n 2, 1) := by decide +kernel
theorem dX5_readVillage_58 : decode cX5_readVillage 58 = .ok (.aload_n 0, 1) := by decide +kernel
theorem dX5_readVillage_59 : decode cX5_readVillage 59 = .ok (.iconst 0, 1) := by decide +kernel
theorem dX5_readVillage_60 : decode cX5_readVillage 60 = .ok (.bipush 100, 2) := by decide +kernel
theorem dX5_readVillage_62 : decode cX5_readVillage 62 = .ok (.invokevirtual 56, 3) := by decide +kernel
theorem dX5_readVillage_65 : decode cX5_readVillage 65 = .ok (.ifCond .ne 5, 3) := by decide +kernel
theorem dX5_readVillage_68 : decode cX5_readVillage 68 = .ok (.iconst 0, 1) := by decide +kernel
theorem dX5_readVillage_69 : decode cX5_readVillage 69 = .ok (.ireturn, 1) := by decide +kernel
theorem dX5_readVillage_70 : decode cX5_readVillage 70 = .ok (.aload_n 0, 1) := by decide +kernel
theorem dX5_readVillage_71 : decode cX5_readVillage 71 = .ok (.getfield 23, 3) := by decide +kernel
theorem dX5_readVillage_74 : decode cX5_readVillage 74 = .ok (.getfield 66, 3) := by decide +kernel
theorem dX5_readVillage_77 : decode cX5_readVillage 77 = .ok (.istore_n 3, 1) := by decide +kernel
theorem dX5_readVillage_78 : decode cX5_readVillage 78 = .ok (.aload_n 0, 1) := by decide +kernel
theorem dX5_readVillage_79 : decode cX5_readVillage 79 = .ok (.invokevirtual 82, 3) := by decide +kernel
theorem dX5_readVillage_82 : decode cX5_readVillage 82 = .ok (.ifCond .ne 5, 3) := by decide +kernel
theorem dX5_readVillage_85 : decode cX5_readVillage 85 = .ok (.iconst 0, 1) := by decide +kernel
theorem dX5_readVillage_86 : decode cX5_readVillage 86 = .ok (.ireturn, 1) := by decide +kernel
theorem dX5_readVillage_87 : decode cX5_readVillage 87 = .ok (.aload_n 0, 1) := by decide +kernel
theorem dX5_readVillage_88 : decode cX5_readVillage 88 = .ok (.getfield 27, 3) := by decide +kernel
theorem dX5_readVillage_91 : decode cX5_readVillage 91 = .ok (.getfield 110, 3) := by decide +kernel
theorem dX5_readVillage_94 : decode cX5_readVillage 94 = .ok (.iload_n 1, 1) := by decide +kernel
theorem dX5_readVillage_95 : decode cX5_readVillage 95 = .ok (.iload_n 2, 1) := by decide +kernel
theorem dX5_readVillage_96 : decode cX5_readVillage 96 = .ok (.iload_n 3, 1) := by decide +kernel
theorem dX5_readVillage_97 : decode cX5_readVillage 97 = .ok (.invokevirtual 125, 3) := by decide +kernel
theorem dX5_readVillage_100 : decode cX5_readVillage 100 = .ok (.iconst 1, 1) := by decide +kernel
theorem dX5_readVillage_101 : decode cX5_readVillage 101 = .ok (.ireturn, 1) := by decide +kernel
theorem dX5_readFair_0 : decode cX5_readFair 0 = .ok (.aload_n 0, 1) := by decide +kernel
theorem dX5_readFair_1 : decode cX5_readFair 1 = .ok (.getfield 27, 3) := by decide +kernel
theorem dX5_readFair_4 : decode cX5_readFair 4 = .ok (.getfield 129, 3) := by decide +kernel
theorem dX5_readFair_7 : decode cX5_readFair 7 = .ok (.getfield 133, 3) := by decide +kernel
theorem dX5_readFair_10 : decode cX5_readFair 10 = .ok (.bipush 6, 2) := by decide +kernel
theorem dX5_readFair_12 : decode cX5_readFair 12 = .ok (.if_icmp .lt 9, 3) := by decide +kernel
theorem dX5_readFair_15 : decode cX5_readFair 15 = .ok (.aload_n 0, 1) := by decide +kernel
theorem dX5_readFair_16 : decode cX5_readFair 16 = .ok (.iconst 5, 1) := by decide +kernel
theorem dX5_readFair_17 : decode cX5_readFair 17 = .ok (.invokevirtual 52, 3) := by decide +kernel
theorem dX5_readFair_20 : decode cX5_readFair 20 = .ok (.ireturn, 1) := by decide +kernel
theorem dX5_readFair_21 : decode cX5_readFair 21 = .ok (.aload_n 0, 1) := by decide +kernel
theorem dX5_readFair_22 : decode cX5_readFair 22 = .ok (.invokevirtual 119, 3) := by decide +kernel
theorem dX5_readFair_25 : decode cX5_readFair 25 = .ok (.ifCond .ne 5, 3) := by decide +kernel
theorem dX5_readFair_28 : decode cX5_readFair 28 = .ok (.iconst 0, 1) := by decide +kernel
theorem dX5_readFair_29 : decode cX5_readFair 29 = .ok (.ireturn, 1) := by decide +kernel
theorem dX5_readFair_30 : decode cX5_readFair 30 = .ok (.aload_n 0, 1) := by decide +kernel
theorem dX5_readFair_31 : decode cX5_readFair 31 = .ok (.getfield 23, 3) := by decide +kernel
theorem dX5_readFair_34 : decode cX5_readFair 34 = .ok (.invokevirtual 122, 3) := by decide +kernel
theorem dX5_readFair_37 : decode cX5_readFair 37 = .ok (.istore_n 1, 1) := by decide +kernel
theorem dX5_readFair_38 : decode cX5_readFair 38 = .ok (.aload_n 0, 1) := by decide +kernel
theorem dX5_readFair_39 : decode cX5_readFair 39 = .ok (.invokevirtual 136, 3) := by decide +kernel
theorem dX5_readFair_42 : decode cX5_readFair 42 = .ok (.ifCond .ne 5, 3) := by decide +kernel
theorem dX5_readFair_45 : decode cX5_readFair 45 = .ok (.iconst 0, 1) := by decide +kernel
theorem dX5_readFair_46 : decode cX5_readFair 46 = .ok (.ireturn, 1) := by decide +kernel
theorem dX5_readFair_47 : decode cX5_readFair 47 = .ok (.aload_n 0, 1) := by decide +kernel
theorem dX5_readFair_48 : decode cX5_readFair 48 = .ok (.getfield 27, 3) := by decide +kernel
theorem dX5_readFair_51 : decode cX5_readFair 51 = .ok (.getfield 110, 3) := by decide +kernel
theorem dX5_readFair_54 : decode cX5_readFair 54 = .ok (.aload_n 0, 1) := by decide +kernel
theorem dX5_readFair_55 : decode cX5_readFair 55 = .ok (.getfield 23, 3) := by decide +kernel
theorem dX5_readFair_58 : decode cX5_readFair 58 = .ok (.invokevirtual 122, 3) := by decide +kernel
theorem dX5_readFair_61 : decode cX5_readFair 61 = .ok (.invokevirtual 139, 3) := by decide +kernel
theorem dX5_readFair_64 : decode cX5_readFair 64 = .ok (.istore_n 2, 1) := by decide +kernel
theorem dX5_readFair_65 : decode cX5_readFair 65 = .ok (.aload_n 0, 1) := by decide +kernel
theorem dX5_readFair_66 : decode cX5_readFair 66 = .ok (.iconst 1, 1) := by decide +kernel
theorem dX5_readFair_67 : decode cX5_readFair 67 = .ok (.bipush 12, 2) := by decide +kernel
theorem dX5_readFair_69 : decode cX5_readFair 69 = .ok (.invokevirtual 56, 3) := by decide +kernel
theorem dX5_readFair_72 : decode cX5_readFair 72 = .ok (.ifCond .ne 5, 3) := by decide +kernel
theorem dX5_readFair_75 : decode cX5_readFair 75 = .ok (.iconst 0, 1) := by decide +kernel
theorem dX5_readFair_76 : decode cX5_readFair 76 = .ok (.ireturn, 1) := by decide +kernel
theorem dX5_readFair_77 : decode cX5_readFair 77 = .ok (.aload_n 0, 1) := by decide +kernel
theorem dX5_readFair_78 : decode cX5_readFair 78 = .ok (.getfield 23, 3) := by decide +kernel
theorem dX5_readFair_81 : decode cX5_readFair 81 = .ok (.getfield 66, 3) := by decide +kernel
theorem dX5_readFair_84 : decode cX5_readFair 84 = .ok (.istore_n 3, 1) := by decide +kernel
theorem dX5_readFair_85 : decode cX5_readFair 85 = .ok (.aload_n 0, 1) := by decide +kernel
theorem dX5_readFair_86 : decode cX5_readFair 86 = .ok (.iconst 1, 1) := by decide +kernel
theorem dX5_readFair_87 : decode cX5_readFair 87 = .ok (.bipush 99, 2) := by decide +kernel
theorem dX5_readFair_89 : decode cX5_readFair 89 = .ok (.invokevirtual 56, 3) := by decide +kernel
theorem dX5_readFair_92 : decode cX5_readFair 92 = .ok (.ifCond .ne 5, 3) := by decide +kernel
theorem dX5_readFair_95 : decode cX5_readFair 95 = .ok (.iconst 0, 1) := by decide +kernel
theorem dX5_readFair_96 : decode cX5_readFair 96 = .ok (.ireturn, 1) := by decide +kernel
theorem dX5_readFair_97 : decode cX5_readFair 97 = .ok (.aload_n 0, 1) := by decide +kernel
theorem dX5_readFair_98 : decode cX5_readFair 98 = .ok (.getfield 23, 3) := by decide +kernel
theorem dX5_readFair_101 : decode cX5_readFair 101 = .ok (.getfield 66, 3) := by decide +kernel
theorem dX5_readFair_104 : decode cX5_readFair 104 = .ok (.istore 4, 2) := by decide +kernel
theorem dX5_readFair_106 : decode cX5_readFair 106 = .ok (.aload_n 0, 1) := by decide +kernel
theorem dX5_readFair_107 : decode cX5_readFair 107 = .ok (.iconst 1, 1) := by decide +kernel
theorem dX5_readFair_108 : decode cX5_readFair 108 = .ok (.bipush 20, 2) := by decide +kernel
theorem dX5_readFair_110 : decode cX5_readFair 110 = .ok (.invokevirtual 56, 3) := by decide +kernel
theorem dX5_readFair_113 : decode cX5_readFair 113 = .ok (.ifCond .ne 5, 3) := by decide +kernel
theorem dX5_readFair_116 : decode cX5_readFair 116 = .ok (.iconst 0, 1) := by decide +kernel
theorem dX5_readFair_117 : decode cX5_readFair 117 = .ok (.ireturn, 1) := by decide +kernel
theorem dX5_readFair_118 : decode cX5_readFair 118 = .ok (.aload_n 0, 1) := by decide +kernel
theorem dX5_readFair_119 : decode cX5_readFair 119 = .ok (.getfield 23, 3) := by decide +kernel
theorem dX5_readFair_122 : decode cX5_readFair 122 = .ok (.getfield 66, 3) := by decide +kernel
theorem dX5_readFair_125 : decode cX5_readFair 125 = .ok (.istore 5, 2) := by decide +kernel
theorem dX5_readFair_127 : decode cX5_readFair 127 = .ok (.aload_n 0, 1) := by decide +kernel
theorem dX5_readFair_128 : decode cX5_readFair 128 = .ok (.invokevirtual 82, 3) := by decide +kernel
theorem dX5_readFair_131 : decode cX5_readFair 131 = .ok (.ifCond .ne 5, 3) := by decide +kernel
theorem dX5_readFair_134 : decode cX5_readFair 134 = .ok (.iconst 0, 1) := by decide +kernel
theorem dX5_readFair_135 : decode cX5_readFair 135 = .ok (.ireturn, 1) := by decide +kernel
theorem dX5_readFair_136 : decode cX5_readFair 136 = .ok (.aload_n 0, 1) := by decide +kernel
theorem dX5_readFair_137 : decode cX5_readFair 137 = .ok (.getfield 27, 3) := by decide +kernel
theorem dX5_readFair_140 : decode cX5_readFair 140 = .ok (.getfield 129, 3) := by decide +kernel
theorem dX5_readFair_143 : decode cX5_readFair 143 = .ok (.iload_n 1, 1) := by decide +kernel
theorem dX5_readFair_144 : decode cX5_readFair 144 = .ok (.iload_n 2, 1) := by decide +kernel
theorem dX5_readFair_145 : decode cX5_readFair 145 = .ok (.iload_n 3, 1) := by decide +kernel
theorem dX5_readFair_146 : decode cX5_readFair 146 = .ok (.iload 4, 2) := by decide +kernel
theorem dX5_readFair_148 : decode cX5_readFair 148 = .ok (.iload 5, 2) := by decide +kernel
theorem dX5_readFair_150 : decode cX5_readFair 150 = .ok (.invokevirtual 143, 3) := by decide +kernel
theorem dX5_readFair_153 : decode cX5_readFair 153 = .ok (.iconst 1, 1) := by decide +kernel
theorem dX5_readFair_154 : decode cX5_readFair 154 = .ok (.ireturn, 1) := by decide +kernel
theorem dX5_readSay_0 : decode cX5_readSay 0 = .ok (.aload_n 0, 1) := by decide +kernel
theorem dX5_readSay_1 : decode cX5_readSay 1 = .ok (.invokevirtual 136, 3) := by decide +kernel
theorem dX5_readSay_4 : decode cX5_readSay 4 = .ok (.ifCond .ne 5, 3) := by decide +kernel
theorem dX5_readSay_7 : decode cX5_readSay 7 = .ok (.iconst 0, 1) := by decide +kernel
theorem dX5_readSay_8 : decode cX5_readSay 8 = .ok (.ireturn, 1) := by decide +kernel
theorem dX5_readSay_9 : decode cX5_readSay 9 = .ok (.aload_n 0, 1) := by decide +kernel
theorem dX5_readSay_10 : decode cX5_readSay 10 = .ok (.getfield 27, 3) := by decide +kernel
theorem dX5_readSay_13 : decode cX5_readSay 13 = .ok (.getfield 110, 3) := by decide +kernel
theorem dX5_readSay_16 : decode cX5_readSay 16 = .ok (.aload_n 0, 1) := by decide +kernel
theorem dX5_readSay_17 : decode cX5_readSay 17 = .ok (.getfield 23, 3) := by decide +kernel
theorem dX5_readSay_20 : decode cX5_readSay 20 = .ok (.invokevirtual 122, 3) := by decide +kernel
theorem dX5_readSay_23 : decode cX5_readSay 23 = .ok (.invokevirtual 139, 3) := by decide +kernel
theorem dX5_readSay_26 : decode cX5_readSay 26 = .ok (.istore_n 1, 1) := by decide +kernel
theorem dX5_readSay_27 : decode cX5_readSay 27 = .ok (.aload_n 0, 1) := by decide +kernel
theorem dX5_readSay_28 : decode cX5_readSay 28 = .ok (.iconst 0, 1) := by decide +kernel
theorem dX5_readSay_29 : decode cX5_readSay 29 = .ok (.sipush 9999, 3) := by decide +kernel
theorem dX5_readSay_32 : decode cX5_readSay 32 = .ok (.invokevirtual 56, 3) := by decide +kernel
theorem dX5_readSay_35 : decode cX5_readSay 35 = .ok (.ifCond .ne 5, 3) := by decide +kernel
theorem dX5_readSay_38 : decode cX5_readSay 38 = .ok (.iconst 0, 1) := by decide +kernel
theorem dX5_readSay_39 : decode cX5_readSay 39 = .ok (.ireturn, 1) := by decide +kernel
theorem dX5_readSay_40 : decode cX5_readSay 40 = .ok (.aload_n 0, 1) := by decide +kernel
theorem dX5_readSay_41 : decode cX5_readSay 41 = .ok (.getfield 23, 3) := by decide +kernel
theorem dX5_readSay_44 : decode cX5_readSay 44 = .ok (.getfield 66, 3) := by decide +kernel
theorem dX5_readSay_47 : decode cX5_readSay 47 = .ok (.istore_n 2, 1) := by decide +kernel
theorem dX5_readSay_48 : decode cX5_readSay 48 = .ok (.aload_n 0, 1) := by decide +kernel
theorem dX5_readSay_49 : decode cX5_readSay 49 = .ok (.getfield 23, 3) := by decide +kernel
theorem dX5_readSay_52 : decode cX5_readSay 52 = .ok (.invokevirtual 35, 3) := by decide +kernel
theorem dX5_readSay_55 : decode cX5_readSay 55 = .ok (.aload_n 0, 1) := by decide +kernel
theorem dX5_readSay_56 : decode cX5_readSay 56 = .ok (.invokevirtual 146, 3) := by decide +kernel
theorem dX5_readSay_59 : decode cX5_readSay 59 = .ok (.istore_n 3, 1) := by decide +kernel
theorem dX5_readSay_60 : decode cX5_readSay 60 = .ok (.iload_n 3, 1) := by decide +kernel
theorem dX5_readSay_61 : decode cX5_readSay 61 = .ok (.iconst (-1), 1) := by decide +kernel
theorem dX5_readSay_62 : decode cX5_readSay 62 = .ok (.if_icmp .ne 9, 3) := by decide +kernel
theorem dX5_readSay_65 : decode cX5_readSay 65 = .ok (.aload_n 0, 1) := by decide +kernel
theorem dX5_readSay_66 : decode cX5_readSay 66 = .ok (.iconst 1, 1) := by decide +kernel
theorem dX5_readSay_67 : decode cX5_readSay 67 = .ok (.invokevirtual 52, 3) := by decide +kernel
theorem dX5_readSay_70 : decode cX5_readSay 70 = .ok (.ireturn, 1) := by decide +kernel
theorem dX5_readSay_71 : decode cX5_readSay 71 = .ok (.aload_n 0, 1) := by decide +kernel
theorem dX5_readSay_72 : decode cX5_readSay 72 = .ok (.invokevirtual 82, 3) := by decide +kernel
theorem dX5_readSay_75 : decode cX5_readSay 75 = .ok (.ifCond .ne 5, 3) := by decide +kernel
theorem dX5_readSay_78 : decode cX5_readSay 78 = .ok (.iconst 0, 1) := by decide +kernel
theorem dX5_readSay_79 : decode cX5_readSay 79 = .ok (.ireturn, 1) := by decide +kernel
theorem dX5_readSay_80 : decode cX5_readSay 80 = .ok (.aload_n 0, 1) := by decide +kernel
theorem dX5_readSay_81 : decode cX5_readSay 81 = .ok (.getfield 27, 3) := by decide +kernel
theorem dX5_readSay_84 : decode cX5_readSay 84 = .ok (.iload_n 1, 1) := by decide +kernel
theorem dX5_readSay_85 : decode cX5_readSay 85 = .ok (.iload_n 2, 1) := by decide +kernel
theorem dX5_readSay_86 : decode cX5_readSay 86 = .ok (.invokevirtual 149, 3) := by decide +kernel
theorem dX5_readSay_89 : decode cX5_readSay 89 = .ok (.ifCond .eq 10, 3) := by decide +kernel
theorem dX5_readSay_92 : decode cX5_readSay 92 = .ok (.aload_n 0, 1) := by decide +kernel
theorem dX5_readSay_93 : decode cX5_readSay 93 = .ok (.bipush 6, 2) := by decide +kernel
theorem dX5_readSay_95 : decode cX5_readSay 95 = .ok (.invokevirtual 52, 3) := by decide +kernel
theorem dX5_readSay_98 : decode cX5_readSay 98 = .ok (.ireturn, 1) := by decide +kernel
theorem dX5_readSay_99 : decode cX5_readSay 99 = .ok (.aload_n 0, 1) := by decide +kernel
theorem dX5_readSay_100 : decode cX5_readSay 100 = .ok (.getfield 27, 3) := by decide +kernel
theorem dX5_readSay_103 : decode cX5_readSay 103 = .ok (.getfield 153, 3) := by decide +kernel
theorem dX5_readSay_106 : decode cX5_readSay 106 = .ok (.iload_n 1, 1) := by decide +kernel
theorem dX5_readSay_107 : decode cX5_readSay 107 = .ok (.iload_n 2, 1) := by decide +kernel
theorem dX5_readSay_108 : decode cX5_readSay 108 = .ok (.iload_n 3, 1) := by decide +kernel
theorem dX5_readSay_109 : decode cX5_readSay 109 = .ok (.invokevirtual 157, 3) := by decide +kernel
theorem dX5_readSay_112 : decode cX5_readSay 112 = .ok (.iconst 1, 1) := by decide +kernel
theorem dX5_readSay_113 : decode cX5_readSay 113 = .ok (.ireturn, 1) := by decide +kernel
theorem dX5_readRetract_0 : decode cX5_readRetract 0 = .ok (.aload_n 0, 1) := by decide +kernel
theorem dX5_readRetract_1 : decode cX5_readRetract 1 = .ok (.getfield 23, 3) := by decide +kernel
theorem dX5_readRetract_4 : decode cX5_readRetract 4 = .ok (.invokevirtual 35, 3) := by decide +kernel
theorem dX5_readRetract_7 : decode cX5_readRetract 7 = .ok (.aload_n 0, 1) := by decide +kernel
theorem dX5_readRetract_8 : decode cX5_readRetract 8 = .ok (.getfield 23, 3) := by decide +kernel
theorem dX5_readRetract_11 : decode cX5_readRetract 11 = .ok (.getfield 40, 3) := by decide +kernel
theorem dX5_readRetract_14 : decode cX5_readRetract 14 = .ok (.iconst 2, 1) := by decide +kernel
theorem dX5_readRetract_15 : decode cX5_readRetract 15 = .ok (.if_icmp .eq 9, 3) := by decide +kernel
theorem dX5_readRetract_18 : decode cX5_readRetract 18 = .ok (.aload_n 0, 1) := by decide +kernel
theorem dX5_readRetract_19 : decode cX5_readRetract 19 = .ok (.iconst 1, 1) := by decide +kernel
theorem dX5_readRetract_20 : decode cX5_readRetract 20 = .ok (.invokevirtual 52, 3) := by decide +kernel
theorem dX5_readRetract_23 : decode cX5_readRetract 23 = .ok (.ireturn, 1) := by decide +kernel
theorem dX5_readRetract_24 : decode cX5_readRetract 24 = .ok (.aload_n 0, 1) := by decide +kernel
theorem dX5_readRetract_25 : decode cX5_readRetract 25 = .ok (.getfield 23, 3) := by decide +kernel
theorem dX5_readRetract_28 : decode cX5_readRetract 28 = .ok (.getfield 66, 3) := by decide +kernel
theorem dX5_readRetract_31 : decode cX5_readRetract 31 = .ok (.istore_n 1, 1) := by decide +kernel
theorem dX5_readRetract_32 : decode cX5_readRetract 32 = .ok (.aload_n 0, 1) := by decide +kernel
theorem dX5_readRetract_33 : decode cX5_readRetract 33 = .ok (.getfield 27, 3) := by decide +kernel
theorem dX5_readRetract_36 : decode cX5_readRetract 36 = .ok (.getfield 153, 3) := by decide +kernel
theorem dX5_readRetract_39 : decode cX5_readRetract 39 = .ok (.iload_n 1, 1) := by decide +kernel
theorem dX5_readRetract_40 : decode cX5_readRetract 40 = .ok (.invokevirtual 160, 3) := by decide +kernel
theorem dX5_readRetract_43 : decode cX5_readRetract 43 = .ok (.ifCond .ne 9, 3) := by decide +kernel
theorem dX5_readRetract_46 : decode cX5_readRetract 46 = .ok (.aload_n 0, 1) := by decide +kernel
theorem dX5_readRetract_47 : decode cX5_readRetract 47 = .ok (.iconst 4, 1) := by decide +kernel
theorem dX5_readRetract_48 : decode cX5_readRetract 48 = .ok (.invokevirtual 52, 3) := by decide +kernel
theorem dX5_readRetract_51 : decode cX5_readRetract 51 = .ok (.ireturn, 1) := by decide +kernel
theorem dX5_readRetract_52 : decode cX5_readRetract 52 = .ok (.aload_n 0, 1) := by decide +kernel
theorem dX5_readRetract_53 : decode cX5_readRetract 53 = .ok (.getfield 27, 3) := by decide +kernel
theorem dX5_readRetract_56 : decode cX5_readRetract 56 = .ok (.iload_n 1, 1) := by decide +kernel
theorem dX5_readRetract_57 : decode cX5_readRetract 57 = .ok (.invokevirtual 163, 3) := by decide +kernel
theorem dX5_readRetract_60 : decode cX5_readRetract 60 = .ok (.ifCond .ne 10, 3) := by decide +kernel
theorem dX5_readRetract_63 : decode cX5_readRetract 63 = .ok (.aload_n 0, 1) := by decide +kernel
theorem dX5_readRetract_64 : decode cX5_readRetract 64 = .ok (.bipush 6, 2) := by decide +kernel
theorem dX5_readRetract_66 : decode cX5_readRetract 66 = .ok (.invokevirtual 52, 3) := by decide +kernel
theorem dX5_readRetract_69 : decode cX5_readRetract 69 = .ok (.ireturn, 1) := by decide +kernel
theorem dX5_readRetract_70 : decode cX5_readRetract 70 = .ok (.aload_n 0, 1) := by decide +kernel
theorem dX5_readRetract_71 : decode cX5_readRetract 71 = .ok (.invokevirtual 82, 3) := by decide +kernel
theorem dX5_readRetract_74 : decode cX5_readRetract 74 = .ok (.ifCond .ne 5, 3) := by decide +kernel
theorem dX5_readRetract_77 : decode cX5_readRetract 77 = .ok (.iconst 0, 1) := by decide +kernel
theorem dX5_readRetract_78 : decode cX5_readRetract 78 = .ok (.ireturn, 1) := by decide +kernel
theorem dX5_readRetract_79 : decode cX5_readRetract 79 = .ok (.aload_n 0, 1) := by decide +kernel
theorem dX5_readRetract_80 : decode cX5_readRetract 80 = .ok (.getfield 27, 3) := by decide +kernel
theorem dX5_readRetract_83 : decode cX5_readRetract 83 = .ok (.iload_n 1, 1) := by decide +kernel
theorem dX5_readRetract_84 : decode cX5_readRetract 84 = .ok (.invokevirtual 166, 3) := by decide +kernel
theorem dX5_readRetract_87 : decode cX5_readRetract 87 = .ok (.pop, 1) := by decide +kernel
theorem dX5_readRetract_88 : decode cX5_readRetract 88 = .ok (.iconst 1, 1) := by decide +kernel
theorem dX5_readRetract_89 : decode cX5_readRetract 89 = .ok (.ireturn, 1) := by decide +kernel
theorem dX5_readPass_0 : decode cX5_readPass 0 = .ok (.aload_n 0, 1) := by decide +kernel
theorem dX5_readPass_1 : decode cX5_readPass 1 = .ok (.iconst 0, 1) := by decide +kernel
theorem dX5_readPass_2 : decode cX5_readPass 2 = .ok (.sipush 200, 3) := by decide +kernel
theorem dX5_readPass_5 : decode cX5_readPass 5 = .ok (.invokevirtual 56, 3) := by decide +kernel
theorem dX5_readPass_8 : decode cX5_readPass 8 = .ok (.ifCond .ne 5, 3) := by decide +kernel
theorem dX5_readPass_11 : decode cX5_readPass 11 = .ok (.iconst 0, 1) := by decide +kernel
theorem dX5_readPass_12 : decode cX5_readPass 12 = .ok (.ireturn, 1) := by decide +kernel
theorem dX5_readPass_13 : decode cX5_readPass 13 = .ok (.aload_n 0, 1) := by decide +kernel
theorem dX5_readPass_14 : decode cX5_readPass 14 = .ok (.getfield 23, 3) := by decide +kernel
theorem dX5_readPass_17 : decode cX5_readPass 17 = .ok (.getfield 66, 3) := by decide +kernel
theorem dX5_readPass_20 : decode cX5_readPass 20 = .ok (.istore_n 1, 1) := by decide +kernel
theorem dX5_readPass_21 : decode cX5_readPass 21 = .ok (.aload_n 0, 1) := by decide +kernel
theorem dX5_readPass_22 : decode cX5_readPass 22 = .ok (.invokevirtual 82, 3) := by decide +kernel
theorem dX5_readPass_25 : decode cX5_readPass 25 = .ok (.ifCond .ne 5, 3) := by decide +kernel
theorem dX5_readPass_28 : decode cX5_readPass 28 = .ok (.iconst 0, 1) := by decide +kernel
theorem dX5_readPass_29 : decode cX5_readPass 29 = .ok (.ireturn, 1) := by decide +kernel
theorem dX5_readPass_30 : decode cX5_readPass 30 = .ok (.aload_n 0, 1) := by decide +kernel
theorem dX5_readPass_31 : decode cX5_readPass 31 = .ok (.getfield 27, 3) := by decide +kernel
theorem dX5_readPass_34 : decode cX5_readPass 34 = .ok (.iload_n 1, 1) := by decide +kernel
theorem dX5_readPass_35 : decode cX5_readPass 35 = .ok (.invokevirtual 169, 3) := by decide +kernel
theorem dX5_readPass_38 : decode cX5_readPass 38 = .ok (.iconst 1, 1) := by decide +kernel
theorem dX5_readPass_39 : decode cX5_readPass 39 = .ok (.ireturn, 1) := by decide +kernel
theorem dX5_weatherOfToken_0 : decode cX5_weatherOfToken 0 = .ok (.aload_n 0, 1) := by decide +kernel
theorem dX5_weatherOfToken_1 : decode cX5_weatherOfToken 1 = .ok (.getfield 23, 3) := by decide +kernel
theorem dX5_weatherOfToken_4 : decode cX5_weatherOfToken 4 = .ok (.ldc 173, 2) := by decide +kernel
theorem dX5_weatherOfToken_6 : decode cX5_weatherOfToken 6 = .ok (.invokevirtual 48, 3) := by decide +kernel
theorem dX5_weatherOfToken_9 : decode cX5_weatherOfToken 9 = .ok (.ifCond .eq 5, 3) := by decide +kernel
theorem dX5_weatherOfToken_12 : decode cX5_weatherOfToken 12 = .ok (.iconst 0, 1) := by decide +kernel
theorem dX5_weatherOfToken_13 : decode cX5_weatherOfToken 13 = .ok (.ireturn, 1) := by decide +kernel
theorem dX5_weatherOfToken_14 : decode cX5_weatherOfToken 14 = .ok (.aload_n 0, 1) := by decide +kernel
theorem dX5_weatherOfToken_15 : decode cX5_weatherOfToken 15 = .ok (.getfield 23, 3) := by decide +kernel
theorem dX5_weatherOfToken_18 : decode cX5_weatherOfToken 18 = .ok (.ldc 175, 2) := by decide +kernel
theorem dX5_weatherOfToken_20 : decode cX5_weatherOfToken 20 = .ok (.invokevirtual 48, 3) := by decide +kernel
theorem dX5_weatherOfToken_23 : decode cX5_weatherOfToken 23 = .ok (.ifCond .eq 5, 3) := by decide +kernel
theorem dX5_weatherOfToken_26 : decode cX5_weatherOfToken 26 = .ok (.iconst 1, 1) := by decide +kernel
theorem dX5_weatherOfToken_27 : decode cX5_weatherOfToken 27 = .ok (.ireturn, 1) := by decide +kernel
theorem dX5_weatherOfToken_28 : decode cX5_weatherOfToken 28 = .ok (.aload_n 0, 1) := by decide +kernel
theorem dX5_weatherOfToken_29 : decode cX5_weatherOfToken 29 = .ok (.getfield 23, 3) := by decide +kernel
theorem dX5_weatherOfToken_32 : decode cX5_weatherOfToken 32 = .ok (.ldc 177, 2) := by decide +kernel
theorem dX5_weatherOfToken_34 : decode cX5_weatherOfToken 34 = .ok (.invokevirtual 48, 3) := by decide +kernel
theorem dX5_weatherOfToken_37 : decode cX5_weatherOfToken 37 = .ok (.ifCond .eq 7, 3) := by decide +kernel
theorem dX5_weatherOfToken_40 : decode cX5_weatherOfToken 40 = .ok (.iconst 2, 1) := by decide +kernel
theorem dX5_weatherOfToken_41 : decode cX5_weatherOfToken 41 = .ok (.goto 4, 3) := by decide +kernel
theorem dX5_weatherOfToken_44 : decode cX5_weatherOfToken 44 = .ok (.iconst (-1), 1) := by decide +kernel
theorem dX5_weatherOfToken_45 : decode cX5_weatherOfToken 45 = .ok (.ireturn, 1) := by decide +kernel
theorem dX5_readNewName_0 : decode cX5_readNewName 0 = .ok (.aload_n 0, 1) := by decide +kernel
theorem dX5_readNewName_1 : decode cX5_readNewName 1 = .ok (.getfield 23, 3) := by decide +kernel
theorem dX5_readNewName_4 : decode cX5_readNewName 4 = .ok (.invokevirtual 35, 3) := by decide +kernel
theorem dX5_readNewName_7 : decode cX5_readNewName 7 = .ok (.aload_n 0, 1) := by decide +kernel
theorem dX5_readNewName_8 : decode cX5_readNewName 8 = .ok (.getfield 23, 3) := by decide +kernel
theorem dX5_readNewName_11 : decode cX5_readNewName 11 = .ok (.getfield 40, 3) := by decide +kernel
theorem dX5_readNewName_14 : decode cX5_readNewName 14 = .ok (.iconst 1, 1) := by decide +kernel
theorem dX5_readNewName_15 : decode cX5_readNewName 15 = .ok (.if_icmp .eq 9, 3) := by decide +kernel
theorem dX5_readNewName_18 : decode cX5_readNewName 18 = .ok (.aload_n 0, 1) := by decide +kernel
theorem dX5_readNewName_19 : decode cX5_readNewName 19 = .ok (.iconst 1, 1) := by decide +kernel
theorem dX5_readNewName_20 : decode cX5_readNewName 20 = .ok (.invokevirtual 52, 3) := by decide +kernel
theorem dX5_readNewName_23 : decode cX5_readNewName 23 = .ok (.ireturn, 1) := by decide +kernel
theorem dX5_readNewName_24 : decode cX5_readNewName 24 = .ok (.aload_n 0, 1) := by decide +kernel
theorem dX5_readNewName_25 : decode cX5_readNewName 25 = .ok (.getfield 23, 3) := by decide +kernel
theorem dX5_readNewName_28 : decode cX5_readNewName 28 = .ok (.invokevirtual 122, 3) := by decide +kernel
theorem dX5_readNewName_31 : decode cX5_readNewName 31 = .ok (.istore_n 1, 1) := by decide +kernel
theorem dX5_readNewName_32 : decode cX5_readNewName 32 = .ok (.iload_n 1, 1) := by decide +kernel
theorem dX5_readNewName_33 : decode cX5_readNewName 33 = .ok (.ifCond .ne 9, 3) := by decide +kernel
theorem dX5_readNewName_36 : decode cX5_readNewName 36 = .ok (.aload_n 0, 1) := by decide +kernel
theorem dX5_readNewName_37 : decode cX5_readNewName 37 = .ok (.iconst 2, 1) := by decide +kernel
theorem dX5_readNewName_38 : decode cX5_readNewName 38 = .ok (.invokevirtual 52, 3) := by decide +kernel
theorem dX5_readNewName_41 : decode cX5_readNewName 41 = .ok (.ireturn, 1) := by decide +kernel
theorem dX5_readNewName_42 : decode cX5_readNewName 42 = .ok (.aload_n 0, 1) := by decide +kernel
theorem dX5_readNewName_43 : decode cX5_readNewName 43 = .ok (.getfield 27, 3) := by decide +kernel
theorem dX5_readNewName_46 : decode cX5_readNewName 46 = .ok (.getfield 110, 3) := by decide +kernel
theorem dX5_readNewName_49 : decode cX5_readNewName 49 = .ok (.iload_n 1, 1) := by decide +kernel
theorem dX5_readNewName_50 : decode cX5_readNewName 50 = .ok (.invokevirtual 139, 3) := by decide +kernel
theorem dX5_readNewName_53 : decode cX5_readNewName 53 = .ok (.iconst (-1), 1) := by decide +kernel
theorem dX5_readNewName_54 : decode cX5_readNewName 54 = .ok (.if_icmp .ne 18, 3) := by decide +kernel
theorem dX5_readNewName_57 : decode cX5_readNewName 57 = .ok (.aload_n 0, 1) := by decide +kernel
theorem dX5_readNewName_58 : decode cX5_readNewName 58 = .ok (.getfield 27, 3) := by decide +kernel
theorem dX5_readNewName_61 : decode cX5_readNewName 61 = .ok (.getfield 129, 3) := by decide +kernel
theorem dX5_readNewName_64 : decode cX5_readNewName 64 = .ok (.iload_n 1, 1) := by decide +kernel
theorem dX5_readNewName_65 : decode cX5_readNewName 65 = .ok (.invokevirtual 179, 3) := by decide +kernel
theorem dX5_readNewName_68 : decode cX5_readNewName 68 = .ok (.iconst (-1), 1) := by decide +kernel
theorem dX5_readNewName_69 : decode cX5_readNewName 69 = .ok (.if_icmp .eq 7, 3) := by decide +kernel
theorem dX5_readNewName_72 : decode cX5_readNewName 72 = .ok (.iconst 1, 1) := by decide +kernel
theorem dX5_readNewName_73 : decode cX5_readNewName 73 = .ok (.goto 4, 3) := by decide +kernel
theorem dX5_readNewName_76 : decode cX5_readNewName 76 = .ok (.iconst 0, 1) := by decide +kernel
theorem dX5_readNewName_77 : decode cX5_readNewName 77 = .ok (.istore_n 2, 1) := by decide +kernel
theorem dX5_readNewName_78 : decode cX5_readNewName 78 = .ok (.iload_n 2, 1) := by decide +kernel
theorem dX5_readNewName_79 : decode cX5_readNewName 79 = .ok (.ifCond .eq 11, 3) := by decide +kernel
theorem dX5_readNewName_82 : decode cX5_readNewName 82 = .ok (.aload_n 0, 1) := by decide +kernel
theorem dX5_readNewName_83 : decode cX5_readNewName 83 = .ok (.iconst 3, 1) := by decide +kernel
theorem dX5_readNewName_84 : decode cX5_readNewName 84 = .ok (.invokevirtual 52, 3) := by decide +kernel
theorem dX5_readNewName_87 : decode cX5_readNewName 87 = .ok (.ifCond .eq 7, 3) := by decide +kernel
theorem dX5_readNewName_90 : decode cX5_readNewName 90 = .ok (.iconst 1, 1) := by decide +kernel
theorem dX5_readNewName_91 : decode cX5_readNewName 91 = .ok (.goto 4, 3) := by decide +kernel
theorem dX5_readNewName_94 : decode cX5_readNewName 94 = .ok (.iconst 0, 1) := by decide +kernel
theorem dX5_readNewName_95 : decode cX5_readNewName 95 = .ok (.ireturn, 1) := by decide +kernel
theorem dX5_readKnownVillage_0 : decode cX5_readKnownVillage 0 = .ok (.aload_n 0, 1) := by decide +kernel
theorem dX5_readKnownVillage_1 : decode cX5_readKnownVillage 1 = .ok (.getfield 23, 3) := by decide +kernel
theorem dX5_readKnownVillage_4 : decode cX5_readKnownVillage 4 = .ok (.invokevirtual 35, 3) := by decide +kernel
theorem dX5_readKnownVillage_7 : decode cX5_readKnownVillage 7 = .ok (.aload_n 0, 1) := by decide +kernel
theorem dX5_readKnownVillage_8 : decode cX5_readKnownVillage 8 = .ok (.getfield 23, 3) := by decide +kernel
theorem dX5_readKnownVillage_11 : decode cX5_readKnownVillage 11 = .ok (.getfield 40, 3) := by decide +kernel
theorem dX5_readKnownVillage_14 : decode cX5_readKnownVillage 14 = .ok (.iconst 1, 1) := by decide +kernel
theorem dX5_readKnownVillage_15 : decode cX5_readKnownVillage 15 = .ok (.if_icmp .eq 9, 3) := by decide +kernel
theorem dX5_readKnownVillage_18 : decode cX5_readKnownVillage 18 = .ok (.aload_n 0, 1) := by decide +kernel
theorem dX5_readKnownVillage_19 : decode cX5_readKnownVillage 19 = .ok (.iconst 1, 1) := by decide +kernel
theorem dX5_readKnownVillage_20 : decode cX5_readKnownVillage 20 = .ok (.invokevirtual 52, 3) := by decide +kernel
theorem dX5_readKnownVillage_23 : decode cX5_readKnownVillage 23 = .ok (.ireturn, 1) := by decide +kernel
theorem dX5_readKnownVillage_24 : decode cX5_readKnownVillage 24 = .ok (.aload_n 0, 1) := by decide +kernel
theorem dX5_readKnownVillage_25 : decode cX5_readKnownVillage 25 = .ok (.getfield 27, 3) := by decide +kernel
theorem dX5_readKnownVillage_28 : decode cX5_readKnownVillage 28 = .ok (.getfield 110, 3) := by decide +kernel
theorem dX5_readKnownVillage_31 : decode cX5_readKnownVillage 31 = .ok (.aload_n 0, 1) := by decide +kernel
theorem dX5_readKnownVillage_32 : decode cX5_readKnownVillage 32 = .ok (.getfield 23, 3) := by decide +kernel
theorem dX5_readKnownVillage_35 : decode cX5_readKnownVillage 35 = .ok (.invokevirtual 122, 3) := by decide +kernel
theorem dX5_readKnownVillage_38 : decode cX5_readKnownVillage 38 = .ok (.invokevirtual 139, 3) := by decide +kernel
theorem dX5_readKnownVillage_41 : decode cX5_readKnownVillage 41 = .ok (.iconst (-1), 1) := by decide +kernel
theorem dX5_readKnownVillage_42 : decode cX5_readKnownVillage 42 = .ok (.if_icmp .ne 11, 3) := by decide +kernel
theorem dX5_readKnownVillage_45 : decode cX5_readKnownVillage 45 = .ok (.aload_n 0, 1) := by decide +kernel
theorem dX5_readKnownVillage_46 : decode cX5_readKnownVillage 46 = .ok (.iconst 4, 1) := by decide +kernel
theorem dX5_readKnownVillage_47 : decode cX5_readKnownVillage 47 = .ok (.invokevirtual 52, 3) := by decide +kernel
theorem dX5_readKnownVillage_50 : decode cX5_readKnownVillage 50 = .ok (.ifCond .eq 7, 3) := by decide +kernel
theorem dX5_readKnownVillage_53 : decode cX5_readKnownVillage 53 = .ok (.iconst 1, 1) := by decide +kernel
theorem dX5_readKnownVillage_54 : decode cX5_readKnownVillage 54 = .ok (.goto 4, 3) := by decide +kernel
theorem dX5_readKnownVillage_57 : decode cX5_readKnownVillage 57 = .ok (.iconst 0, 1) := by decide +kernel
theorem dX5_readKnownVillage_58 : decode cX5_readKnownVillage 58 = .ok (.ireturn, 1) := by decide +kernel
theorem dX5_readNumber_0 : decode cX5_readNumber 0 = .ok (.aload_n 0, 1) := by decide +kernel
theorem dX5_readNumber_1 : decode cX5_readNumber 1 = .ok (.getfield 23, 3) := by decide +kernel
theorem dX5_readNumber_4 : decode cX5_readNumber 4 = .ok (.invokevirtual 35, 3) := by decide +kernel
theorem dX5_readNumber_7 : decode cX5_readNumber 7 = .ok (.aload_n 0, 1) := by decide +kernel
theorem dX5_readNumber_8 : decode cX5_readNumber 8 = .ok (.getfield 23, 3) := by decide +kernel
theorem dX5_readNumber_11 : decode cX5_readNumber 11 = .ok (.getfield 40, 3) := by decide +kernel
theorem dX5_readNumber_14 : decode cX5_readNumber 14 = .ok (.iconst 2, 1) := by decide +kernel
theorem dX5_readNumber_15 : decode cX5_readNumber 15 = .ok (.if_icmp .eq 9, 3) := by decide +kernel
theorem dX5_readNumber_18 : decode cX5_readNumber 18 = .ok (.aload_n 0, 1) := by decide +kernel
theorem dX5_readNumber_19 : decode cX5_readNumber 19 = .ok (.iconst 1, 1) := by decide +kernel
theorem dX5_readNumber_20 : decode cX5_readNumber 20 = .ok (.invokevirtual 52, 3) := by decide +kernel
theorem dX5_readNumber_23 : decode cX5_readNumber 23 = .ok (.ireturn, 1) := by decide +kernel
theorem dX5_readNumber_24 : decode cX5_readNumber 24 = .ok (.aload_n 0, 1) := by decide +kernel
theorem dX5_readNumber_25 : decode cX5_readNumber 25 = .ok (.getfield 23, 3) := by decide +kernel
theorem dX5_readNumber_28 : decode cX5_readNumber 28 = .ok (.getfield 66, 3) := by decide +kernel
theorem dX5_readNumber_31 : decode cX5_readNumber 31 = .ok (.iload_n 1, 1) := by decide +kernel
theorem dX5_readNumber_32 : decode cX5_readNumber 32 = .ok (.iload_n 2, 1) := by decide +kernel
theorem dX5_readNumber_33 : decode cX5_readNumber 33 = .ok (.invokestatic 180, 3) := by decide +kernel
theorem dX5_readNumber_36 : decode cX5_readNumber 36 = .ok (.ifCond .ne 11, 3) := by decide +kernel
theorem dX5_readNumber_39 : decode cX5_readNumber 39 = .ok (.aload_n 0, 1) := by decide +kernel
theorem dX5_readNumber_40 : decode cX5_readNumber 40 = .ok (.iconst 2, 1) := by decide +kernel
theorem dX5_readNumber_41 : decode cX5_readNumber 41 = .ok (.invokevirtual 52, 3) := by decide +kernel
theorem dX5_readNumber_44 : decode cX5_readNumber 44 = .ok (.ifCond .eq 7, 3) := by decide +kernel
theorem dX5_readNumber_47 : decode cX5_readNumber 47 = .ok (.iconst 1, 1) := by decide +kernel
theorem dX5_readNumber_48 : decode cX5_readNumber 48 = .ok (.goto 4, 3) := by decide +kernel
theorem dX5_readNumber_51 : decode cX5_readNumber 51 = .ok (.iconst 0, 1) := by decide +kernel
theorem dX5_readNumber_52 : decode cX5_readNumber 52 = .ok (.ireturn, 1) := by decide +kernel
theorem dX5_readSemicolon_0 : decode cX5_readSemicolon 0 = .ok (.aload_n 0, 1) := by decide +kernel
theorem dX5_readSemicolon_1 : decode cX5_readSemicolon 1 = .ok (.getfield 23, 3) := by decide +kernel
theorem dX5_readSemicolon_4 : decode cX5_readSemicolon 4 = .ok (.invokevirtual 35, 3) := by decide +kernel
theorem dX5_readSemicolon_7 : decode cX5_readSemicolon 7 = .ok (.aload_n 0, 1) := by decide +kernel
theorem dX5_readSemicolon_8 : decode cX5_readSemicolon 8 = .ok (.getfield 23, 3) := by decide +kernel
theorem dX5_readSemicolon_11 : decode cX5_readSemicolon 11 = .ok (.invokevirtual 184, 3) := by decide +kernel
theorem dX5_readSemicolon_14 : decode cX5_readSemicolon 14 = .ok (.ifCond .ne 11, 3) := by decide +kernel
theorem dX5_readSemicolon_17 : decode cX5_readSemicolon 17 = .ok (.aload_n 0, 1) := by decide +kernel
theorem dX5_readSemicolon_18 : decode cX5_readSemicolon 18 = .ok (.iconst 1, 1) := by decide +kernel
theorem dX5_readSemicolon_19 : decode cX5_readSemicolon 19 = .ok (.invokevirtual 52, 3) := by decide +kernel
theorem dX5_readSemicolon_22 : decode cX5_readSemicolon 22 = .ok (.ifCond .eq 7, 3) := by decide +kernel
theorem dX5_readSemicolon_25 : decode cX5_readSemicolon 25 = .ok (.iconst 1, 1) := by decide +kernel
theorem dX5_readSemicolon_26 : decode cX5_readSemicolon 26 = .ok (.goto 4, 3) := by decide +kernel
theorem dX5_readSemicolon_29 : decode cX5_readSemicolon 29 = .ok (.iconst 0, 1) := by decide +kernel
theorem dX5_readSemicolon_30 : decode cX5_readSemicolon 30 = .ok (.ireturn, 1) := by decide +kernel
theorem dX5_fail_0 : decode cX5_fail 0 = .ok (.aload_n 0, 1) := by decide +kernel
theorem dX5_fail_1 : decode cX5_fail 1 = .ok (.iload_n 1, 1) := by decide +kernel
theorem dX5_fail_2 : decode cX5_fail 2 = .ok (.putfield 9, 3) := by decide +kernel
theorem dX5_fail_5 : decode cX5_fail 5 = .ok (.aload_n 0, 1) := by decide +kernel
theorem dX5_fail_6 : decode cX5_fail 6 = .ok (.aload_n 0, 1) := by decide +kernel
theorem dX5_fail_7 : decode cX5_fail 7 = .ok (.getfield 23, 3) := by decide +kernel
theorem dX5_fail_10 : decode cX5_fail 10 = .ok (.getfield 187, 3) := by decide +kernel
theorem dX5_fail_13 : decode cX5_fail 13 = .ok (.putfield 15, 3) := by decide +kernel
theorem dX5_fail_16 : decode cX5_fail 16 = .ok (.iconst 0, 1) := by decide +kernel
theorem dX5_fail_17 : decode cX5_fail 17 = .ok (.ireturn, 1) := by decide +kernel
theorem dX6_init_0 : decode cX6_init 0 = .ok (.aload_n 0, 1) := by decide +kernel
theorem dX6_init_1 : decode cX6_init 1 = .ok (.invokespecial 3, 3) := by decide +kernel
theorem dX6_init_4 : decode cX6_init 4 = .ok (.aload_n 0, 1) := by decide +kernel
theorem dX6_init_5 : decode cX6_init 5 = .ok (.iconst 0, 1) := by decide +kernel
theorem dX6_init_6 : decode cX6_init 6 = .ok (.putfield 11, 3) := by decide +kernel
theorem dX6_init_9 : decode cX6_init 9 = .ok (.aload_n 0, 1) := by decide +kernel
theorem dX6_init_10 : decode cX6_init 10 = .ok (.iconst 0, 1) := by decide +kernel
theorem dX6_init_11 : decode cX6_init 11 = .ok (.putfield 15, 3) := by decide +kernel
theorem dX6_init_14 : decode cX6_init 14 = .ok (.aload_n 0, 1) := by decide +kernel
theorem dX6_init_15 : decode cX6_init 15 = .ok (.iconst 0, 1) := by decide +kernel
theorem dX6_init_16 : decode cX6_init 16 = .ok (.putfield 18, 3) := by decide +kernel
theorem dX6_init_19 : decode cX6_init 19 = .ok (.aload_n 0, 1) := by decide +kernel
theorem dX6_init_20 : decode cX6_init 20 = .ok (.iconst 0, 1) := by decide +kernel
theorem dX6_init_21 : decode cX6_init 21 = .ok (.putfield 21, 3) := by decide +kernel
theorem dX6_init_24 : decode cX6_init 24 = .ok (.aload_n 0, 1) := by decide +kernel
theorem dX6_init_25 : decode cX6_init 25 = .ok (.aload_n 1, 1) := by decide +kernel
theorem dX6_init_26 : decode cX6_init 26 = .ok (.putfield 24, 3) := by decide +kernel
theorem dX6_init_29 : decode cX6_init 29 = .ok (.return_, 1) := by decide +kernel
theorem dX6_next_0 : decode cX6_next 0 = .ok (.aload_n 0, 1) := by decide +kernel
theorem dX6_next_1 : decode cX6_next 1 = .ok (.aload_n 0, 1) := by decide +kernel
theorem dX6_next_2 : decode cX6_next 2 = .ok (.getfield 18, 3) := by decide +kernel
theorem dX6_next_5 : decode cX6_next 5 = .ok (.putfield 15, 3) := by decide +kernel
theorem dX6_next_8 : decode cX6_next 8 = .ok (.aload_n 0, 1) := by decide +kernel
theorem dX6_next_9 : decode cX6_next 9 = .ok (.getfield 15, 3) := by decide +kernel
theorem dX6_next_12 : decode cX6_next 12 = .ok (.aload_n 0, 1) := by decide +kernel
theorem dX6_next_13 : decode cX6_next 13 = .ok (.getfield 24, 3) := by decide +kernel
theorem dX6_next_16 : decode cX6_next 16 = .ok (.getfield 28, 3) := by decide +kernel
theorem dX6_next_19 : decode cX6_next 19 = .ok (.if_icmp .ge 34, 3) := by decide +kernel
theorem dX6_next_22 : decode cX6_next 22 = .ok (.aload_n 0, 1) := by decide +kernel
theorem dX6_next_23 : decode cX6_next 23 = .ok (.aload_n 0, 1) := by decide +kernel
theorem dX6_next_24 : decode cX6_next 24 = .ok (.getfield 24, 3) := by decide +kernel
theorem dX6_next_27 : decode cX6_next 27 = .ok (.aload_n 0, 1) := by decide +kernel
theorem dX6_next_28 : decode cX6_next 28 = .ok (.getfield 15, 3) := by decide +kernel
theorem dX6_next_31 : decode cX6_next 31 = .ok (.invokevirtual 33, 3) := by decide +kernel
theorem dX6_next_34 : decode cX6_next 34 = .ok (.invokevirtual 37, 3) := by decide +kernel
theorem dX6_next_37 : decode cX6_next 37 = .ok (.ifCond .eq 16, 3) := by decide +kernel
theorem dX6_next_40 : decode cX6_next 40 = .ok (.aload_n 0, 1) := by decide +kernel
theorem dX6_next_41 : decode cX6_next 41 = .ok (.dup, 1) := by decide +kernel
theorem dX6_next_42 : decode cX6_next 42 = .ok (.getfield 15, 3) := by decide +kernel
theorem dX6_next_45 : decode cX6_next 45 = .ok (.iconst 1, 1) := by decide +kernel
theorem dX6_next_46 : decode cX6_next 46 = .ok (.iadd, 1) := by decide +kernel
theorem dX6_next_47 : decode cX6_next 47 = .ok (.putfield 15, 3) := by decide +kernel
theorem dX6_next_50 : decode cX6_next 50 = .ok (.goto (-42), 3) := by decide +kernel
theorem dX6_next_53 : decode cX6_next 53 = .ok (.aload_n 0, 1) := by decide +kernel
theorem dX6_next_54 : decode cX6_next 54 = .ok (.aload_n 0, 1) := by decide +kernel
theorem dX6_next_55 : decode cX6_next 55 = .ok (.getfield 15, 3) := by decide +kernel
theorem dX6_next_58 : decode cX6_next 58 = .ok (.putfield 18, 3) := by decide +kernel
theorem dX6_next_61 : decode cX6_next 61 = .ok (.aload_n 0, 1) := by decide +kernel
theorem dX6_next_62 : decode cX6_next 62 = .ok (.getfield 24, 3) := by decide +kernel
theorem dX6_next_65 : decode cX6_next 65 = .ok (.aload_n 0, 1) := by decide +kernel
theorem dX6_next_66 : decode cX6_next 66 = .ok (.getfield 15, 3) := by decide +kernel
theorem dX6_next_69 : decode cX6_next 69 = .ok (.invokevirtual 33, 3) := by decide +kernel
theorem dX6_next_72 : decode cX6_next 72 = .ok (.istore_n 1, 1) := by decide +kernel
theorem dX6_next_73 : decode cX6_next 73 = .ok (.iload_n 1, 1) := by decide +kernel
theorem dX6_next_74 : decode cX6_next 74 = .ok (.iconst (-1), 1) := by decide +kernel
theorem dX6_next_75 : decode cX6_next 75 = .ok (.if_icmp .ne 11, 3) := by decide +kernel
theorem dX6_next_78 : decode cX6_next 78 = .ok (.aload_n 0, 1) := by decide +kernel
theorem dX6_next_79 : decode cX6_next 79 = .ok (.iconst 0, 1) := by decide +kernel
theorem dX6_next_80 : decode cX6_next 80 = .ok (.putfield 11, 3) := by decide +kernel
theorem dX6_next_83 : decode cX6_next 83 = .ok (.goto 93, 3) := by decide +kernel
theorem dX6_next_86 : decode cX6_next 86 = .ok (.iload_n 1, 1) := by decide +kernel
theorem dX6_next_87 : decode cX6_next 87 = .ok (.invokestatic 41, 3) := by decide +kernel
theorem dX6_next_90 : decode cX6_next 90 = .ok (.ifCond .eq 52, 3) := by decide +kernel
theorem dX6_next_93 : decode cX6_next 93 = .ok (.aload_n 0, 1) := by decide +kernel
theorem dX6_next_94 : decode cX6_next 94 = .ok (.iconst 1, 1) := by decide +kernel
theorem dX6_next_95 : decode cX6_next 95 = .ok (.putfield 11, 3) := by decide +kernel
theorem dX6_next_98 : decode cX6_next 98 = .ok (.aload_n 0, 1) := by decide +kernel
theorem dX6_next_99 : decode cX6_next 99 = .ok (.getfield 18, 3) := by decide +kernel
theorem dX6_next_102 : decode cX6_next 102 = .ok (.aload_n 0, 1) := by decide +kernel
theorem dX6_next_103 : decode cX6_next 103 = .ok (.getfield 24, 3) := by decide +kernel
theorem dX6_next_106 : decode cX6_next 106 = .ok (.getfield 28, 3) := by decide +kernel
theorem dX6_next_109 : decode cX6_next 109 = .ok (.if_icmp .ge 67, 3) := by decide +kernel
theorem dX6_next_112 : decode cX6_next 112 = .ok (.aload_n 0, 1) := by decide +kernel
theorem dX6_next_113 : decode cX6_next 113 = .ok (.getfield 24, 3) := by decide +kernel
theorem dX6_next_116 : decode cX6_next 116 = .ok (.aload_n 0, 1) := by decide +kernel
theorem dX6_next_117 : decode cX6_next 117 = .ok (.getfield 18, 3) := by decide +kernel
theorem dX6_next_120 : decode cX6_next 120 = .ok (.invokevirtual 33, 3) := by decide +kernel
theorem dX6_next_123 : decode cX6_next 123 = .ok (.invokestatic 41, 3) := by decide +kernel
theorem dX6_next_126 : decode cX6_next 126 = .ok (.ifCond .eq 50, 3) := by decide +kernel
theorem dX6_next_129 : decode cX6_next 129 = .ok (.aload_n 0, 1) := by decide +kernel
theorem dX6_next_130 : decode cX6_next 130 = .ok (.dup, 1) := by decide +kernel
theorem dX6_next_131 : decode cX6_next 131 = .ok (.getfield 18, 3) := by decide +kernel
theorem dX6_next_134 : decode cX6_next 134 = .ok (.iconst 1, 1) := by decide +kernel
theorem dX6_next_135 : decode cX6_next 135 = .ok (.iadd, 1) := by decide +kernel
theorem dX6_next_136 : decode cX6_next 136 = .ok (.putfield 18, 3) := by decide +kernel
theorem dX6_next_139 : decode cX6_next 139 = .ok (.goto (-41), 3) := by decide +kernel
theorem dX6_next_142 : decode cX6_next 142 = .ok (.iload_n 1, 1) := by decide +kernel
theorem dX6_next_143 : decode cX6_next 143 = .ok (.invokestatic 44, 3) := by decide +kernel
theorem dX6_next_146 : decode cX6_next 146 = .ok (.ifCond .eq 15, 3) := by decide +kernel
theorem dX6_next_149 : decode cX6_next 149 = .ok (.aload_n 0, 1) := by decide +kernel
theorem dX6_next_150 : decode cX6_next 150 = .ok (.iconst 2, 1) := by decide +kernel
theorem dX6_next_151 : decode cX6_next 151 = .ok (.putfield 11, 3) := by decide +kernel
theorem dX6_next_154 : decode cX6_next 154 = .ok (.aload_n 0, 1) := by decide +kernel
theorem dX6_next_155 : decode cX6_next 155 = .ok (.invokevirtual 47, 3) := by decide +kernel
theorem dX6_next_158 : decode cX6_next 158 = .ok (.goto 18, 3) := by decide +kernel
theorem dX6_next_161 : decode cX6_next 161 = .ok (.aload_n 0, 1) := by decide +kernel
theorem dX6_next_162 : decode cX6_next 162 = .ok (.iconst 3, 1) := by decide +kernel
theorem dX6_next_163 : decode cX6_next 163 = .ok (.putfield 11, 3) := by decide +kernel
theorem dX6_next_166 : decode cX6_next 166 = .ok (.aload_n 0, 1) := by decide +kernel
theorem dX6_next_167 : decode cX6_next 167 = .ok (.dup, 1) := by decide +kernel
theorem dX6_next_168 : decode cX6_next 168 = .ok (.getfield 18, 3) := by decide +kernel
theorem dX6_next_171 : decode cX6_next 171 = .ok (.iconst 1, 1) := by decide +kernel
theorem dX6_next_172 : decode cX6_next 172 = .ok (.iadd, 1) := by decide +kernel
theorem dX6_next_173 : decode cX6_next 173 = .ok (.putfield 18, 3) := by decide +kernel
theorem dX6_next_176 : decode cX6_next 176 = .ok (.return_, 1) := by decide +kernel
theorem dX6_isBlank_0 : decode cX6_isBlank 0 = .ok (.iload_n 1, 1) := by decide +kernel
theorem dX6_isBlank_1 : decode cX6_isBlank 1 = .ok (.bipush 32, 2) := by decide +kernel
theorem dX6_isBlank_3 : decode cX6_isBlank 3 = .ok (.if_icmp .eq 9, 3) := by decide +kernel
theorem dX6_isBlank_6 : decode cX6_isBlank 6 = .ok (.iload_n 1, 1) := by decide +kernel
theorem dX6_isBlank_7 : decode cX6_isBlank 7 = .ok (.bipush 10, 2) := by decide +kernel
theorem dX6_isBlank_9 : decode cX6_isBlank 9 = .ok (.if_icmp .ne 7, 3) := by decide +kernel
theorem dX6_isBlank_12 : decode cX6_isBlank 12 = .ok (.iconst 1, 1) := by decide +kernel
theorem dX6_isBlank_13 : decode cX6_isBlank 13 = .ok (.goto 4, 3) := by decide +kernel
theorem dX6_isBlank_16 : decode cX6_isBlank 16 = .ok (.iconst 0, 1) := by decide +kernel
theorem dX6_isBlank_17 : decode cX6_isBlank 17 = .ok (.ireturn, 1) := by decide +kernel
theorem dX6_readDigits_0 : decode cX6_readDigits 0 = .ok (.aload_n 0, 1) := by decide +kernel
theorem dX6_readDigits_1 : decode cX6_readDigits 1 = .ok (.iconst 0, 1) := by decide +kernel
theorem dX6_readDigits_2 : decode cX6_readDigits 2 = .ok (.putfield 21, 3) := by decide +kernel
theorem dX6_readDigits_5 : decode cX6_readDigits 5 = .ok (.aload_n 0, 1) := by decide +kernel
theorem dX6_readDigits_6 : decode cX6_readDigits 6 = .ok (.getfield 18, 3) := by decide +kernel
theorem dX6_readDigits_9 : decode cX6_readDigits 9 = .ok (.aload_n 0, 1) := by decide +kernel
theorem dX6_readDigits_10 : decode cX6_readDigits 10 = .ok (.getfield 24, 3) := by decide +kernel
theorem dX6_readDigits_13 : decode cX6_readDigits 13 = .ok (.getfield 28, 3) := by decide +kernel
theorem dX6_readDigits_16 : decode cX6_readDigits 16 = .ok (.if_icmp .ge 64, 3) := by decide +kernel
theorem dX6_readDigits_19 : decode cX6_readDigits 19 = .ok (.aload_n 0, 1) := by decide +kernel
theorem dX6_readDigits_20 : decode cX6_readDigits 20 = .ok (.getfield 24, 3) := by decide +kernel
theorem dX6_readDigits_23 : decode cX6_readDigits 23 = .ok (.aload_n 0, 1) := by decide +kernel
theorem dX6_readDigits_24 : decode cX6_readDigits 24 = .ok (.getfield 18, 3) := by decide +kernel
theorem dX6_readDigits_27 : decode cX6_readDigits 27 = .ok (.invokevirtual 33, 3) := by decide +kernel
theorem dX6_readDigits_30 : decode cX6_readDigits 30 = .ok (.invokestatic 44, 3) := by decide +kernel
theorem dX6_readDigits_33 : decode cX6_readDigits 33 = .ok (.ifCond .eq 47, 3) := by decide +kernel
theorem dX6_readDigits_36 : decode cX6_readDigits 36 = .ok (.aload_n 0, 1) := by decide +kernel
theorem dX6_readDigits_37 : decode cX6_readDigits 37 = .ok (.ldc 50, 2) := by decide +kernel
theorem dX6_readDigits_39 : decode cX6_readDigits 39 = .ok (.bipush 10, 2) := by decide +kernel
theorem dX6_readDigits_41 : decode cX6_readDigits 41 = .ok (.aload_n 0, 1) := by decide +kernel
theorem dX6_readDigits_42 : decode cX6_readDigits 42 = .ok (.getfield 21, 3) := by decide +kernel
theorem dX6_readDigits_45 : decode cX6_readDigits 45 = .ok (.imul, 1) := by decide +kernel
theorem dX6_readDigits_46 : decode cX6_readDigits 46 = .ok (.aload_n 0, 1) := by decide +kernel
theorem dX6_readDigits_47 : decode cX6_readDigits 47 = .ok (.getfield 24, 3) := by decide +kernel
theorem dX6_readDigits_50 : decode cX6_readDigits 50 = .ok (.aload_n 0, 1) := by decide +kernel
theorem dX6_readDigits_51 : decode cX6_readDigits 51 = .ok (.getfield 18, 3) := by decide +kernel
theorem dX6_readDigits_54 : decode cX6_readDigits 54 = .ok (.invokevirtual 33, 3) := by decide +kernel
theorem dX6_readDigits_57 : decode cX6_readDigits 57 = .ok (.iadd, 1) := by decide +kernel
theorem dX6_readDigits_58 : decode cX6_readDigits 58 = .ok (.bipush 48, 2) := by decide +kernel
theorem dX6_readDigits_60 : decode cX6_readDigits 60 = .ok (.isub, 1) := by decide +kernel
theorem dX6_readDigits_61 : decode cX6_readDigits 61 = .ok (.invokestatic 51, 3) := by decide +kernel
theorem dX6_readDigits_64 : decode cX6_readDigits 64 = .ok (.putfield 21, 3) := by decide +kernel
theorem dX6_readDigits_67 : decode cX6_readDigits 67 = .ok (.aload_n 0, 1) := by decide +kernel
theorem dX6_readDigits_68 : decode cX6_readDigits 68 = .ok (.dup, 1) := by decide +kernel
theorem dX6_readDigits_69 : decode cX6_readDigits 69 = .ok (.getfield 18, 3) := by decide +kernel
theorem dX6_readDigits_72 : decode cX6_readDigits 72 = .ok (.iconst 1, 1) := by decide +kernel
theorem dX6_readDigits_73 : decode cX6_readDigits 73 = .ok (.iadd, 1) := by decide +kernel
theorem dX6_readDigits_74 : decode cX6_readDigits 74 = .ok (.putfield 18, 3) := by decide +kernel
theorem dX6_readDigits_77 : decode cX6_readDigits 77 = .ok (.goto (-72), 3) := by decide +kernel
theorem dX6_readDigits_80 : decode cX6_readDigits 80 = .ok (.return_, 1) := by decide +kernel
theorem dX6_isWord_0 : decode cX6_isWord 0 = .ok (.aload_n 0, 1) := by decide +kernel
theorem dX6_isWord_1 : decode cX6_isWord 1 = .ok (.getfield 11, 3) := by decide +kernel
theorem dX6_isWord_4 : decode cX6_isWord 4 = .ok (.iconst 1, 1) := by decide +kernel
theorem dX6_isWord_5 : decode cX6_isWord 5 = .ok (.if_icmp .ne 19, 3) := by decide +kernel
theorem dX6_isWord_8 : decode cX6_isWord 8 = .ok (.aload_n 0, 1) := by decide +kernel
theorem dX6_isWord_9 : decode cX6_isWord 9 = .ok (.getfield 18, 3) := by decide +kernel
theorem dX6_isWord_12 : decode cX6_isWord 12 = .ok (.aload_n 0, 1) := by decide +kernel
theorem dX6_isWord_13 : decode cX6_isWord 13 = .ok (.getfield 15, 3) := by decide +kernel
theorem dX6_isWord_16 : decode cX6_isWord 16 = .ok (.isub, 1) := by decide +kernel
theorem dX6_isWord_17 : decode cX6_isWord 17 = .ok (.aload_n 1, 1) := by decide +kernel
theorem dX6_isWord_18 : decode cX6_isWord 18 = .ok (.invokevirtual 57, 3) := by decide +kernel
theorem dX6_isWord_21 : decode cX6_isWord 21 = .ok (.if_icmp .eq 5, 3) := by decide +kernel
theorem dX6_isWord_24 : decode cX6_isWord 24 = .ok (.iconst 0, 1) := by decide +kernel
theorem dX6_isWord_25 : decode cX6_isWord 25 = .ok (.ireturn, 1) := by decide +kernel
theorem dX6_isWord_26 : decode cX6_isWord 26 = .ok (.iconst 0, 1) := by decide +kernel
theorem dX6_isWord_27 : decode cX6_isWord 27 = .ok (.istore_n 2, 1) := by decide +kernel
theorem dX6_isWord_28 : decode cX6_isWord 28 = .ok (.iload_n 2, 1) := by decide +kernel
theorem dX6_isWord_29 : decode cX6_isWord 29 = .ok (.aload_n 1, 1) := by decide +kernel
theorem dX6_isWord_30 : decode cX6_isWord 30 = .ok (.invokevirtual 57, 3) := by decide +kernel
theorem dX6_isWord_33 : decode cX6_isWord 33 = .ok (.if_icmp .ge 32, 3) := by decide +kernel
theorem dX6_isWord_36 : decode cX6_isWord 36 = .ok (.aload_n 0, 1) := by decide +kernel
theorem dX6_isWord_37 : decode cX6_isWord 37 = .ok (.getfield 24, 3) := by decide +kernel
theorem dX6_isWord_40 : decode cX6_isWord 40 = .ok (.aload_n 0, 1) := by decide +kernel
theorem dX6_isWord_41 : decode cX6_isWord 41 = .ok (.getfield 15, 3) := by decide +kernel
theorem dX6_isWord_44 : decode cX6_isWord 44 = .ok (.iload_n 2, 1) := by decide +kernel
theorem dX6_isWord_45 : decode cX6_isWord 45 = .ok (.iadd, 1) := by decide +kernel
theorem dX6_isWord_46 : decode cX6_isWord 46 = .ok (.invokevirtual 33, 3) := by decide +kernel
theorem dX6_isWord_49 : decode cX6_isWord 49 = .ok (.aload_n 1, 1) := by decide +kernel
theorem dX6_isWord_50 : decode cX6_isWord 50 = .ok (.iload_n 2, 1) := by decide +kernel
theorem dX6_isWord_51 : decode cX6_isWord 51 = .ok (.invokevirtual 62, 3) := by decide +kernel
theorem dX6_isWord_54 : decode cX6_isWord 54 = .ok (.if_icmp .eq 5, 3) := by decide +kernel
theorem dX6_isWord_57 : decode cX6_isWord 57 = .ok (.iconst 0, 1) := by decide +kernel
theorem dX6_isWord_58 : decode cX6_isWord 58 = .ok (.ireturn, 1) := by decide +kernel
theorem dX6_isWord_59 : decode cX6_isWord 59 = .ok (.iinc 2 1, 3) := by decide +kernel
theorem dX6_isWord_62 : decode cX6_isWord 62 = .ok (.goto (-34), 3) := by decide +kernel
theorem dX6_isWord_65 : decode cX6_isWord 65 = .ok (.iconst 1, 1) := by decide +kernel
theorem dX6_isWord_66 : decode cX6_isWord 66 = .ok (.ireturn, 1) := by decide +kernel
theorem dX6_isSemicolon_0 : decode cX6_isSemicolon 0 = .ok (.aload_n 0, 1) := by decide +kernel
theorem dX6_isSemicolon_1 : decode cX6_isSemicolon 1 = .ok (.getfield 11, 3) := by decide +kernel
theorem dX6_isSemicolon_4 : decode cX6_isSemicolon 4 = .ok (.iconst 3, 1) := by decide +kernel
theorem dX6_isSemicolon_5 : decode cX6_isSemicolon 5 = .ok (.if_icmp .ne 23, 3) := by decide +kernel
theorem dX6_isSemicolon_8 : decode cX6_isSemicolon 8 = .ok (.aload_n 0, 1) := by decide +kernel
theorem dX6_isSemicolon_9 : decode cX6_isSemicolon 9 = .ok (.getfield 24, 3) := by decide +kernel
theorem dX6_isSemicolon_12 : decode cX6_isSemicolon 12 = .ok (.aload_n 0, 1) := by decide +kernel
theorem dX6_isSemicolon_13 : decode cX6_isSemicolon 13 = .ok (.getfield 15, 3) := by decide +kernel
theorem dX6_isSemicolon_16 : decode cX6_isSemicolon 16 = .ok (.invokevirtual 33, 3) := by decide +kernel
theorem dX6_isSemicolon_19 : decode cX6_isSemicolon 19 = .ok (.bipush 59, 2) := by decide +kernel
theorem dX6_isSemicolon_21 : decode cX6_isSemicolon 21 = .ok (.if_icmp .ne 7, 3) := by decide +kernel
theorem dX6_isSemicolon_24 : decode cX6_isSemicolon 24 = .ok (.iconst 1, 1) := by decide +kernel
theorem dX6_isSemicolon_25 : decode cX6_isSemicolon 25 = .ok (.goto 4, 3) := by decide +kernel
theorem dX6_isSemicolon_28 : decode cX6_isSemicolon 28 = .ok (.iconst 0, 1) := by decide +kernel
theorem dX6_isSemicolon_29 : decode cX6_isSemicolon 29 = .ok (.ireturn, 1) := by decide +kernel
theorem dX6_name_0 : decode cX6_name 0 = .ok (.aload_n 0, 1) := by decide +kernel
theorem dX6_name_1 : decode cX6_name 1 = .ok (.getfield 24, 3) := by decide +kernel
theorem dX6_name_4 : decode cX6_name 4 = .ok (.aload_n 0, 1) := by decide +kernel
theorem dX6_name_5 : decode cX6_name 5 = .ok (.getfield 15, 3) := by decide +kernel
theorem dX6_name_8 : decode cX6_name 8 = .ok (.aload_n 0, 1) := by decide +kernel
theorem dX6_name_9 : decode cX6_name 9 = .ok (.getfield 18, 3) := by decide +kernel
theorem dX6_name_12 : decode cX6_name 12 = .ok (.invokevirtual 66, 3) := by decide +kernel
theorem dX6_name_15 : decode cX6_name 15 = .ok (.ireturn, 1) := by decide +kernel
theorem dX7_init_0 : decode cX7_init 0 = .ok (.aload_n 0, 1) := by decide +kernel
theorem dX7_init_1 : decode cX7_init 1 = .ok (.invokespecial 3, 3) := by decide +kernel
theorem dX7_init_4 : decode cX7_init 4 = .ok (.aload_n 0, 1) := by decide +kernel
theorem dX7_init_5 : decode cX7_init 5 = .ok (.iconst 3, 1) := by decide +kernel
theorem dX7_init_6 : decode cX7_init 6 = .ok (.newarray .int, 2) := by decide +kernel
theorem dX7_init_8 : decode cX7_init 8 = .ok (.putfield 9, 3) := by decide +kernel
theorem dX7_init_11 : decode cX7_init 11 = .ok (.aload_n 0, 1) := by decide +kernel
theorem dX7_init_12 : decode cX7_init 12 = .ok (.iconst 3, 1) := by decide +kernel
theorem dX7_init_13 : decode cX7_init 13 = .ok (.newarray .int, 2) := by decide +kernel
theorem dX7_init_15 : decode cX7_init 15 = .ok (.putfield 15, 3) := by decide +kernel
theorem dX7_init_18 : decode cX7_init 18 = .ok (.aload_n 0, 1) := by decide +kernel
theorem dX7_init_19 : decode cX7_init 19 = .ok (.iconst 0, 1) := by decide +kernel
theorem dX7_init_20 : decode cX7_init 20 = .ok (.putfield 18, 3) := by decide +kernel
theorem dX7_init_23 : decode cX7_init 23 = .ok (.return_, 1) := by decide +kernel
theorem dX7_sumOfOdds_0 : decode cX7_sumOfOdds 0 = .ok (.aload_n 0, 1) := by decide +kernel
theorem dX7_sumOfOdds_1 : decode cX7_sumOfOdds 1 = .ok (.getfield 9, 3) := by decide +kernel
theorem dX7_sumOfOdds_4 : decode cX7_sumOfOdds 4 = .ok (.iconst 0, 1) := by decide +kernel
theorem dX7_sumOfOdds_5 : decode cX7_sumOfOdds 5 = .ok (.iaload, 1) := by decide +kernel
theorem dX7_sumOfOdds_6 : decode cX7_sumOfOdds 6 = .ok (.aload_n 0, 1) := by decide +kernel
theorem dX7_sumOfOdds_7 : decode cX7_sumOfOdds 7 = .ok (.getfield 9, 3) := by decide +kernel
theorem dX7_sumOfOdds_10 : decode cX7_sumOfOdds 10 = .ok (.iconst 1, 1) := by decide +kernel
theorem dX7_sumOfOdds_11 : decode cX7_sumOfOdds 11 = .ok (.iaload, 1) := by decide +kernel
theorem dX7_sumOfOdds_12 : decode cX7_sumOfOdds 12 = .ok (.iadd, 1) := by decide +kernel
theorem dX7_sumOfOdds_13 : decode cX7_sumOfOdds 13 = .ok (.aload_n 0, 1) := by decide +kernel
theorem dX7_sumOfOdds_14 : decode cX7_sumOfOdds 14 = .ok (.getfield 9, 3) := by decide +kernel
theorem dX7_sumOfOdds_17 : decode cX7_sumOfOdds 17 = .ok (.iconst 2, 1) := by decide +kernel
theorem dX7_sumOfOdds_18 : decode cX7_sumOfOdds 18 = .ok (.iaload, 1) := by decide +kernel
theorem dX7_sumOfOdds_19 : decode cX7_sumOfOdds 19 = .ok (.iadd, 1) := by decide +kernel
theorem dX7_sumOfOdds_20 : decode cX7_sumOfOdds 20 = .ok (.ireturn, 1) := by decide +kernel
theorem dX7_seedAfter_0 : decode cX7_seedAfter 0 = .ok (.bipush 29, 2) := by decide +kernel
theorem dX7_seedAfter_2 : decode cX7_seedAfter 2 = .ok (.iload_n 0, 1) := by decide +kernel
theorem dX7_seedAfter_3 : decode cX7_seedAfter 3 = .ok (.imul, 1) := by decide +kernel
theorem dX7_seedAfter_4 : decode cX7_seedAfter 4 = .ok (.bipush 11, 2) := by decide +kernel
theorem dX7_seedAfter_6 : decode cX7_seedAfter 6 = .ok (.iadd, 1) := by decide +kernel
theorem dX7_seedAfter_7 : decode cX7_seedAfter 7 = .ok (.sipush 1024, 3) := by decide +kernel
theorem dX7_seedAfter_10 : decode cX7_seedAfter 10 = .ok (.irem, 1) := by decide +kernel
theorem dX7_seedAfter_11 : decode cX7_seedAfter 11 = .ok (.ireturn, 1) := by decide +kernel
theorem dX7_weatherFor_0 : decode cX7_weatherFor 0 = .ok (.aload_n 0, 1) := by decide +kernel
theorem dX7_weatherFor_1 : decode cX7_weatherFor 1 = .ok (.invokevirtual 22, 3) := by decide +kernel
theorem dX7_weatherFor_4 : decode cX7_weatherFor 4 = .ok (.istore_n 2, 1) := by decide +kernel
theorem dX7_weatherFor_5 : decode cX7_weatherFor 5 = .ok (.iload_n 2, 1) := by decide +kernel
theorem dX7_weatherFor_6 : decode cX7_weatherFor 6 = .ok (.iconst 1, 1) := by decide +kernel
theorem dX7_weatherFor_7 : decode cX7_weatherFor 7 = .ok (.if_icmp .ge 7, 3) := by decide +kernel
theorem dX7_weatherFor_10 : decode cX7_weatherFor 10 = .ok (.iconst 0, 1) := by decide +kernel
theorem dX7_weatherFor_11 : decode cX7_weatherFor 11 = .ok (.goto 6, 3) := by decide +kernel
theorem dX7_weatherFor_14 : decode cX7_weatherFor 14 = .ok (.iload_n 1, 1) := by decide +kernel
theorem dX7_weatherFor_15 : decode cX7_weatherFor 15 = .ok (.iload_n 2, 1) := by decide +kernel
theorem dX7_weatherFor_16 : decode cX7_weatherFor 16 = .ok (.irem, 1) := by decide +kernel
theorem dX7_weatherFor_17 : decode cX7_weatherFor 17 = .ok (.istore_n 3, 1) := by decide +kernel
theorem dX7_weatherFor_18 : decode cX7_weatherFor 18 = .ok (.iload_n 3, 1) := by decide +kernel
theorem dX7_weatherFor_19 : decode cX7_weatherFor 19 = .ok (.aload_n 0, 1) := by decide +kernel
theorem dX7_weatherFor_20 : decode cX7_weatherFor 20 = .ok (.getfield 9, 3) := by decide +kernel
theorem dX7_weatherFor_23 : decode cX7_weatherFor 23 = .ok (.iconst 0, 1) := by decide +kernel
theorem dX7_weatherFor_24 : decode cX7_weatherFor 24 = .ok (.iaload, 1) := by decide +kernel
theorem dX7_weatherFor_25 : decode cX7_weatherFor 25 = .ok (.if_icmp .ge 5, 3) := by decide +kernel
theorem dX7_weatherFor_28 : decode cX7_weatherFor 28 = .ok (.iconst 0, 1) := by decide +kernel
theorem dX7_weatherFor_29 : decode cX7_weatherFor 29 = .ok (.ireturn, 1) := by decide +kernel
theorem dX7_weatherFor_30 : decode cX7_weatherFor 30 = .ok (.iload_n 3, 1) := by decide +kernel
theorem dX7_weatherFor_31 : decode cX7_weatherFor 31 = .ok (.aload_n 0, 1) := by decide +kernel
theorem dX7_weatherFor_32 : decode cX7_weatherFor 32 = .ok (.getfield 9, 3) := by decide +kernel
theorem dX7_weatherFor_35 : decode cX7_weatherFor 35 = .ok (.iconst 0, 1) := by decide +kernel
theorem dX7_weatherFor_36 : decode cX7_weatherFor 36 = .ok (.iaload, 1) := by decide +kernel
theorem dX7_weatherFor_37 : decode cX7_weatherFor 37 = .ok (.aload_n 0, 1) := by decide +kernel
theorem dX7_weatherFor_38 : decode cX7_weatherFor 38 = .ok (.getfield 9, 3) := by decide +kernel
theorem dX7_weatherFor_41 : decode cX7_weatherFor 41 = .ok (.iconst 1, 1) := by decide +kernel
theorem dX7_weatherFor_42 : decode cX7_weatherFor 42 = .ok (.iaload, 1) := by decide +kernel
theorem dX7_weatherFor_43 : decode cX7_weatherFor 43 = .ok (.iadd, 1) := by decide +kernel
theorem dX7_weatherFor_44 : decode cX7_weatherFor 44 = .ok (.if_icmp .ge 7, 3) := by decide +kernel
theorem dX7_weatherFor_47 : decode cX7_weatherFor 47 = .ok (.iconst 1, 1) := by decide +kernel
theorem dX7_weatherFor_48 : decode cX7_weatherFor 48 = .ok (.goto 4, 3) := by decide +kernel
theorem dX7_weatherFor_51 : decode cX7_weatherFor 51 = .ok (.iconst 2, 1) := by decide +kernel
theorem dX7_weatherFor_52 : decode cX7_weatherFor 52 = .ok (.ireturn, 1) := by decide +kernel
theorem dX7_draw_0 : decode cX7_draw 0 = .ok (.aload_n 0, 1) := by decide +kernel
theorem dX7_draw_1 : decode cX7_draw 1 = .ok (.aload_n 0, 1) := by decide +kernel
theorem dX7_draw_2 : decode cX7_draw 2 = .ok (.getfield 18, 3) := by decide +kernel
theorem dX7_draw_5 : decode cX7_draw 5 = .ok (.invokestatic 26, 3) := by decide +kernel
theorem dX7_draw_8 : decode cX7_draw 8 = .ok (.putfield 18, 3) := by decide +kernel
theorem dX7_draw_11 : decode cX7_draw 11 = .ok (.aload_n 0, 1) := by decide +kernel
theorem dX7_draw_12 : decode cX7_draw 12 = .ok (.aload_n 0, 1) := by decide +kernel
theorem dX7_draw_13 : decode cX7_draw 13 = .ok (.getfield 18, 3) := by decide +kernel
theorem dX7_draw_16 : decode cX7_draw 16 = .ok (.invokevirtual 30, 3) := by decide +kernel
theorem dX7_draw_19 : decode cX7_draw 19 = .ok (.istore_n 1, 1) := by decide +kernel
theorem dX7_draw_20 : decode cX7_draw 20 = .ok (.aload_n 0, 1) := by decide +kernel
theorem dX7_draw_21 : decode cX7_draw 21 = .ok (.getfield 15, 3) := by decide +kernel
theorem dX7_draw_24 : decode cX7_draw 24 = .ok (.iload_n 1, 1) := by decide +kernel
theorem dX7_draw_25 : decode cX7_draw 25 = .ok (.dup2, 1) := by decide +kernel
theorem dX7_draw_26 : decode cX7_draw 26 = .ok (.iaload, 1) := by decide +kernel
theorem dX7_draw_27 : decode cX7_draw 27 = .ok (.iconst 1, 1) := by decide +kernel
theorem dX7_draw_28 : decode cX7_draw 28 = .ok (.iadd, 1) := by decide +kernel
theorem dX7_draw_29 : decode cX7_draw 29 = .ok (.iastore, 1) := by decide +kernel
theorem dX7_draw_30 : decode cX7_draw 30 = .ok (.iload_n 1, 1) := by decide +kernel
theorem dX7_draw_31 : decode cX7_draw 31 = .ok (.ireturn, 1) := by decide +kernel
theorem dX7_firstGreatest_0 : decode cX7_firstGreatest 0 = .ok (.iconst 0, 1) := by decide +kernel
theorem dX7_firstGreatest_1 : decode cX7_firstGreatest 1 = .ok (.istore_n 1, 1) := by decide +kernel
theorem dX7_firstGreatest_2 : decode cX7_firstGreatest 2 = .ok (.iconst 1, 1) := by decide +kernel
theorem dX7_firstGreatest_3 : decode cX7_firstGreatest 3 = .ok (.istore_n 2, 1) := by decide +kernel
theorem dX7_firstGreatest_4 : decode cX7_firstGreatest 4 = .ok (.iload_n 2, 1) := by decide +kernel
theorem dX7_firstGreatest_5 : decode cX7_firstGreatest 5 = .ok (.iconst 2, 1) := by decide +kernel
theorem dX7_firstGreatest_6 : decode cX7_firstGreatest 6 = .ok (.if_icmp .gt 20, 3) := by decide +kernel
theorem dX7_firstGreatest_9 : decode cX7_firstGreatest 9 = .ok (.aload_n 0, 1) := by decide +kernel
theorem dX7_firstGreatest_10 : decode cX7_firstGreatest 10 = .ok (.iload_n 2, 1) := by decide +kernel
theorem dX7_firstGreatest_11 : decode cX7_firstGreatest 11 = .ok (.iaload, 1) := by decide +kernel
theorem dX7_firstGreatest_12 : decode cX7_firstGreatest 12 = .ok (.aload_n 0, 1) := by decide +kernel
theorem dX7_firstGreatest_13 : decode cX7_firstGreatest 13 = .ok (.iload_n 1, 1) := by decide +kernel
theorem dX7_firstGreatest_14 : decode cX7_firstGreatest 14 = .ok (.iaload, 1) := by decide +kernel
theorem dX7_firstGreatest_15 : decode cX7_firstGreatest 15 = .ok (.if_icmp .le 5, 3) := by decide +kernel
theorem dX7_firstGreatest_18 : decode cX7_firstGreatest 18 = .ok (.iload_n 2, 1) := by decide +kernel
theorem dX7_firstGreatest_19 : decode cX7_firstGreatest 19 = .ok (.istore_n 1, 1) := by decide +kernel
theorem dX7_firstGreatest_20 : decode cX7_firstGreatest 20 = .ok (.iinc 2 1, 3) := by decide +kernel
theorem dX7_firstGreatest_23 : decode cX7_firstGreatest 23 = .ok (.goto (-19), 3) := by decide +kernel
theorem dX7_firstGreatest_26 : decode cX7_firstGreatest 26 = .ok (.iload_n 1, 1) := by decide +kernel
theorem dX7_firstGreatest_27 : decode cX7_firstGreatest 27 = .ok (.ireturn, 1) := by decide +kernel
theorem dX7_lastLeast_0 : decode cX7_lastLeast 0 = .ok (.iconst 0, 1) := by decide +kernel
theorem dX7_lastLeast_1 : decode cX7_lastLeast 1 = .ok (.istore_n 1, 1) := by decide +kernel
theorem dX7_lastLeast_2 : decode cX7_lastLeast 2 = .ok (.iconst 1, 1) := by decide +kernel
theorem dX7_lastLeast_3 : decode cX7_lastLeast 3 = .ok (.istore_n 2, 1) := by decide +kernel
theorem dX7_lastLeast_4 : decode cX7_lastLeast 4 = .ok (.iload_n 2, 1) := by decide +kernel
theorem dX7_lastLeast_5 : decode cX7_lastLeast 5 = .ok (.iconst 2, 1) := by decide +kernel
theorem dX7_lastLeast_6 : decode cX7_lastLeast 6 = .ok (.if_icmp .gt 20, 3) := by decide +kernel
theorem dX7_lastLeast_9 : decode cX7_lastLeast 9 = .ok (.aload_n 0, 1) := by decide +kernel
theorem dX7_lastLeast_10 : decode cX7_lastLeast 10 = .ok (.iload_n 2, 1) := by decide +kernel
theorem dX7_lastLeast_11 : decode cX7_lastLeast 11 = .ok (.iaload, 1) := by decide +kernel
theorem dX7_lastLeast_12 : decode cX7_lastLeast 12 = .ok (.aload_n 0, 1) := by decide +kernel
theorem dX7_lastLeast_13 : decode cX7_lastLeast 13 = .ok (.iload_n 1, 1) := by decide +kernel
theorem dX7_lastLeast_14 : decode cX7_lastLeast 14 = .ok (.iaload, 1) := by decide +kernel
theorem dX7_lastLeast_15 : decode cX7_lastLeast 15 = .ok (.if_icmp .gt 5, 3) := by decide +kernel
theorem dX7_lastLeast_18 : decode cX7_lastLeast 18 = .ok (.iload_n 2, 1) := by decide +kernel
theorem dX7_lastLeast_19 : decode cX7_lastLeast 19 = .ok (.istore_n 1, 1) := by decide +kernel
theorem dX7_lastLeast_20 : decode cX7_lastLeast 20 = .ok (.iinc 2 1, 3) := by decide +kernel
theorem dX7_lastLeast_23 : decode cX7_lastLeast 23 = .ok (.goto (-19), 3) := by decide +kernel
theorem dX7_lastLeast_26 : decode cX7_lastLeast 26 = .ok (.iload_n 1, 1) := by decide +kernel
theorem dX7_lastLeast_27 : decode cX7_lastLeast 27 = .ok (.ireturn, 1) := by decide +kernel
theorem dX7_closeYear_0 : decode cX7_closeYear 0 = .ok (.aload_n 0, 1) := by decide +kernel
theorem dX7_closeYear_1 : decode cX7_closeYear 1 = .ok (.getfield 15, 3) := by decide +kernel
theorem dX7_closeYear_4 : decode cX7_closeYear 4 = .ok (.invokestatic 33, 3) := by decide +kernel
theorem dX7_closeYear_7 : decode cX7_closeYear 7 = .ok (.istore_n 1, 1) := by decide +kernel
theorem dX7_closeYear_8 : decode cX7_closeYear 8 = .ok (.aload_n 0, 1) := by decide +kernel
theorem dX7_closeYear_9 : decode cX7_closeYear 9 = .ok (.getfield 9, 3) := by decide +kernel
theorem dX7_closeYear_12 : decode cX7_closeYear 12 = .ok (.iload_n 1, 1) := by decide +kernel
theorem dX7_closeYear_13 : decode cX7_closeYear 13 = .ok (.iaload, 1) := by decide +kernel
theorem dX7_closeYear_14 : decode cX7_closeYear 14 = .ok (.bipush 20, 2) := by decide +kernel
theorem dX7_closeYear_16 : decode cX7_closeYear 16 = .ok (.if_icmp .ge 13, 3) := by decide +kernel
theorem dX7_closeYear_19 : decode cX7_closeYear 19 = .ok (.aload_n 0, 1) := by decide +kernel
theorem dX7_closeYear_20 : decode cX7_closeYear 20 = .ok (.getfield 9, 3) := by decide +kernel
theorem dX7_closeYear_23 : decode cX7_closeYear 23 = .ok (.iload_n 1, 1) := by decide +kernel
theorem dX7_closeYear_24 : decode cX7_closeYear 24 = .ok (.dup2, 1) := by decide +kernel
theorem dX7_closeYear_25 : decode cX7_closeYear 25 = .ok (.iaload, 1) := by decide +kernel
theorem dX7_closeYear_26 : decode cX7_closeYear 26 = .ok (.iconst 1, 1) := by decide +kernel
theorem dX7_closeYear_27 : decode cX7_closeYear 27 = .ok (.iadd, 1) := by decide +kernel
theorem dX7_closeYear_28 : decode cX7_closeYear 28 = .ok (.iastore, 1) := by decide +kernel
theorem dX7_closeYear_29 : decode cX7_closeYear 29 = .ok (.aload_n 0, 1) := by decide +kernel
theorem dX7_closeYear_30 : decode cX7_closeYear 30 = .ok (.getfield 15, 3) := by decide +kernel
theorem dX7_closeYear_33 : decode cX7_closeYear 33 = .ok (.invokestatic 37, 3) := by decide +kernel
theorem dX7_closeYear_36 : decode cX7_closeYear 36 = .ok (.istore_n 2, 1) := by decide +kernel
theorem dX7_closeYear_37 : decode cX7_closeYear 37 = .ok (.aload_n 0, 1) := by decide +kernel
theorem dX7_closeYear_38 : decode cX7_closeYear 38 = .ok (.getfield 9, 3) := by decide +kernel
theorem dX7_closeYear_41 : decode cX7_closeYear 41 = .ok (.iload_n 2, 1) := by decide +kernel
theorem dX7_closeYear_42 : decode cX7_closeYear 42 = .ok (.iaload, 1) := by decide +kernel
theorem dX7_closeYear_43 : decode cX7_closeYear 43 = .ok (.ifCond .le 13, 3) := by decide +kernel
theorem dX7_closeYear_46 : decode cX7_closeYear 46 = .ok (.aload_n 0, 1) := by decide +kernel
theorem dX7_closeYear_47 : decode cX7_closeYear 47 = .ok (.getfield 9, 3) := by decide +kernel
theorem dX7_closeYear_50 : decode cX7_closeYear 50 = .ok (.iload_n 2, 1) := by decide +kernel
theorem dX7_closeYear_51 : decode cX7_closeYear 51 = .ok (.dup2, 1) := by decide +kernel
theorem dX7_closeYear_52 : decode cX7_closeYear 52 = .ok (.iaload, 1) := by decide +kernel
theorem dX7_closeYear_53 : decode cX7_closeYear 53 = .ok (.iconst 1, 1) := by decide +kernel
theorem dX7_closeYear_54 : decode cX7_closeYear 54 = .ok (.isub, 1) := by decide +kernel
theorem dX7_closeYear_55 : decode cX7_closeYear 55 = .ok (.iastore, 1) := by decide +kernel
theorem dX7_closeYear_56 : decode cX7_closeYear 56 = .ok (.iconst 0, 1) := by decide +kernel
theorem dX7_closeYear_57 : decode cX7_closeYear 57 = .ok (.istore_n 3, 1) := by decide +kernel
theorem dX7_closeYear_58 : decode cX7_closeYear 58 = .ok (.iload_n 3, 1) := by decide +kernel
theorem dX7_closeYear_59 : decode cX7_closeYear 59 = .ok (.iconst 2, 1) := by decide +kernel
theorem dX7_closeYear_60 : decode cX7_closeYear 60 = .ok (.if_icmp .gt 16, 3) := by decide +kernel
theorem dX7_closeYear_63 : decode cX7_closeYear 63 = .ok (.aload_n 0, 1) := by decide +kernel
theorem dX7_closeYear_64 : decode cX7_closeYear 64 = .ok (.getfield 15, 3) := by decide +kernel
theorem dX7_closeYear_67 : decode cX7_closeYear 67 = .ok (.iload_n 3, 1) := by decide +kernel
theorem dX7_closeYear_68 : decode cX7_closeYear 68 = .ok (.iconst 0, 1) := by decide +kernel
theorem dX7_closeYear_69 : decode cX7_closeYear 69 = .ok (.iastore, 1) := by decide +kernel
theorem dX7_closeYear_70 : decode cX7_closeYear 70 = .ok (.iinc 3 1, 3) := by decide +kernel
theorem dX7_closeYear_73 : decode cX7_closeYear 73 = .ok (.goto (-15), 3) := by decide +kernel
theorem dX7_closeYear_76 : decode cX7_closeYear 76 = .ok (.return_, 1) := by decide +kernel
theorem dX7_takeFrom_0 : decode cX7_takeFrom 0 = .ok (.aload_n 1, 1) := by decide +kernel
theorem dX7_takeFrom_1 : decode cX7_takeFrom 1 = .ok (.getfield 9, 3) := by decide +kernel
theorem dX7_takeFrom_4 : decode cX7_takeFrom 4 = .ok (.iconst 0, 1) := by decide +kernel
theorem dX7_takeFrom_5 : decode cX7_takeFrom 5 = .ok (.aload_n 0, 1) := by decide +kernel
theorem dX7_takeFrom_6 : decode cX7_takeFrom 6 = .ok (.getfield 9, 3) := by decide +kernel
theorem dX7_takeFrom_9 : decode cX7_takeFrom 9 = .ok (.iconst 0, 1) := by decide +kernel
theorem dX7_takeFrom_10 : decode cX7_takeFrom 10 = .ok (.iconst 3, 1) := by decide +kernel
theorem dX7_takeFrom_11 : decode cX7_takeFrom 11 = .ok (.invokestatic 40, 3) := by decide +kernel
theorem dX7_takeFrom_14 : decode cX7_takeFrom 14 = .ok (.aload_n 1, 1) := by decide +kernel
theorem dX7_takeFrom_15 : decode cX7_takeFrom 15 = .ok (.getfield 15, 3) := by decide +kernel
theorem dX7_takeFrom_18 : decode cX7_takeFrom 18 = .ok (.iconst 0, 1) := by decide +kernel
theorem dX7_takeFrom_19 : decode cX7_takeFrom 19 = .ok (.aload_n 0, 1) := by decide +kernel
theorem dX7_takeFrom_20 : decode cX7_takeFrom 20 = .ok (.getfield 15, 3) := by decide +kernel
theorem dX7_takeFrom_23 : decode cX7_takeFrom 23 = .ok (.iconst 0, 1) := by decide +kernel
theorem dX7_takeFrom_24 : decode cX7_takeFrom 24 = .ok (.iconst 3, 1) := by decide +kernel
theorem dX7_takeFrom_25 : decode cX7_takeFrom 25 = .ok (.invokestatic 40, 3) := by decide +kernel
theorem dX7_takeFrom_28 : decode cX7_takeFrom 28 = .ok (.aload_n 0, 1) := by decide +kernel
theorem dX7_takeFrom_29 : decode cX7_takeFrom 29 = .ok (.aload_n 1, 1) := by decide +kernel
theorem dX7_takeFrom_30 : decode cX7_takeFrom 30 = .ok (.getfield 18, 3) := by decide +kernel
theorem dX7_takeFrom_33 : decode cX7_takeFrom 33 = .ok (.putfield 18, 3) := by decide +kernel
theorem dX7_takeFrom_36 : decode cX7_takeFrom 36 = .ok (.return_, 1) := by decide +kernel
theorem dX8_init_0 : decode cX8_init 0 = .ok (.aload_n 0, 1) := by decide +kernel
theorem dX8_init_1 : decode cX8_init 1 = .ok (.invokespecial 3, 3) := by decide +kernel
theorem dX8_init_4 : decode cX8_init 4 = .ok (.aload_n 0, 1) := by decide +kernel
theorem dX8_init_5 : decode cX8_init 5 = .ok (.new 9, 3) := by decide +kernel
theorem dX8_init_8 : decode cX8_init 8 = .ok (.dup, 1) := by decide +kernel
theorem dX8_init_9 : decode cX8_init 9 = .ok (.invokespecial 11, 3) := by decide +kernel
theorem dX8_init_12 : decode cX8_init 12 = .ok (.putfield 12, 3) := by decide +kernel
theorem dX8_init_15 : decode cX8_init 15 = .ok (.aload_n 0, 1) := by decide +kernel
theorem dX8_init_16 : decode cX8_init 16 = .ok (.new 18, 3) := by decide +kernel
theorem dX8_init_19 : decode cX8_init 19 = .ok (.dup, 1) := by decide +kernel
theorem dX8_init_20 : decode cX8_init 20 = .ok (.invokespecial 20, 3) := by decide +kernel
theorem dX8_init_23 : decode cX8_init 23 = .ok (.putfield 21, 3) := by decide +kernel
theorem dX8_init_26 : decode cX8_init 26 = .ok (.aload_n 0, 1) := by decide +kernel
theorem dX8_init_27 : decode cX8_init 27 = .ok (.new 25, 3) := by decide +kernel
theorem dX8_init_30 : decode cX8_init 30 = .ok (.dup, 1) := by decide +kernel
theorem dX8_init_31 : decode cX8_init 31 = .ok (.invokespecial 27, 3) := by decide +kernel
theorem dX8_init_34 : decode cX8_init 34 = .ok (.putfield 28, 3) := by decide +kernel
theorem dX8_init_37 : decode cX8_init 37 = .ok (.aload_n 0, 1) := by decide +kernel
theorem dX8_init_38 : decode cX8_init 38 = .ok (.new 32, 3) := by decide +kernel
theorem dX8_init_41 : decode cX8_init 41 = .ok (.dup, 1) := by decide +kernel
theorem dX8_init_42 : decode cX8_init 42 = .ok (.invokespecial 34, 3) := by decide +kernel
theorem dX8_init_45 : decode cX8_init 45 = .ok (.putfield 35, 3) := by decide +kernel
theorem dX8_init_48 : decode cX8_init 48 = .ok (.aload_n 0, 1) := by decide +kernel
theorem dX8_init_49 : decode cX8_init 49 = .ok (.new 39, 3) := by decide +kernel
theorem dX8_init_52 : decode cX8_init 52 = .ok (.dup, 1) := by decide +kernel
theorem dX8_init_53 : decode cX8_init 53 = .ok (.invokespecial 41, 3) := by decide +kernel
theorem dX8_init_56 : decode cX8_init 56 = .ok (.putfield 42, 3) := by decide +kernel
theorem dX8_init_59 : decode cX8_init 59 = .ok (.aload_n 0, 1) := by decide +kernel
theorem dX8_init_60 : decode cX8_init 60 = .ok (.iconst 0, 1) := by decide +kernel
theorem dX8_init_61 : decode cX8_init 61 = .ok (.putfield 46, 3) := by decide +kernel
theorem dX8_init_64 : decode cX8_init 64 = .ok (.aload_n 0, 1) := by decide +kernel
theorem dX8_init_65 : decode cX8_init 65 = .ok (.iconst 0, 1) := by decide +kernel
theorem dX8_init_66 : decode cX8_init 66 = .ok (.putfield 50, 3) := by decide +kernel
theorem dX8_init_69 : decode cX8_init 69 = .ok (.aload_n 0, 1) := by decide +kernel
theorem dX8_init_70 : decode cX8_init 70 = .ok (.iconst 0, 1) := by decide +kernel
theorem dX8_init_71 : decode cX8_init 71 = .ok (.putfield 53, 3) := by decide +kernel
theorem dX8_init_74 : decode cX8_init 74 = .ok (.aload_n 0, 1) := by decide +kernel
theorem dX8_init_75 : decode cX8_init 75 = .ok (.iconst 0, 1) := by decide +kernel
theorem dX8_init_76 : decode cX8_init 76 = .ok (.putfield 56, 3) := by decide +kernel
theorem dX8_init_79 : decode cX8_init 79 = .ok (.aload_n 0, 1) := by decide +kernel
theorem dX8_init_80 : decode cX8_init 80 = .ok (.iconst 0, 1) := by decide +kernel
theorem dX8_init_81 : decode cX8_init 81 = .ok (.putfield 59, 3) := by decide +kernel
theorem dX8_init_84 : decode cX8_init 84 = .ok (.aload_n 0, 1) := by decide +kernel
theorem dX8_init_85 : decode cX8_init 85 = .ok (.iconst 0, 1) := by decide +kernel
theorem dX8_init_86 : decode cX8_init 86 = .ok (.putfield 62, 3) := by decide +kernel
theorem dX8_init_89 : decode cX8_init 89 = .ok (.aload_n 0, 1) := by decide +kernel
theorem dX8_init_90 : decode cX8_init 90 = .ok (.iconst 0, 1) := by decide +kernel
theorem dX8_init_91 : decode cX8_init 91 = .ok (.putfield 65, 3) := by decide +kernel
theorem dX8_init_94 : decode cX8_init 94 = .ok (.aload_n 0, 1) := by decide +kernel
theorem dX8_init_95 : decode cX8_init 95 = .ok (.iconst 0, 1) := by decide +kernel
theorem dX8_init_96 : decode cX8_init 96 = .ok (.putfield 68, 3) := by decide +kernel
theorem dX8_init_99 : decode cX8_init 99 = .ok (.aload_n 0, 1) := by decide +kernel
theorem dX8_init_100 : decode cX8_init 100 = .ok (.iconst 0, 1) := by decide +kernel
theorem dX8_init_101 : decode cX8_init 101 = .ok (.putfield 71, 3) := by decide +kernel
theorem dX8_init_104 : decode cX8_init 104 = .ok (.return_, 1) := by decide +kernel
theorem dX8_clear_0 : decode cX8_clear 0 = .ok (.aload_n 0, 1) := by decide +kernel
theorem dX8_clear_1 : decode cX8_clear 1 = .ok (.getfield 12, 3) := by decide +kernel
theorem dX8_clear_4 : decode cX8_clear 4 = .ok (.iconst 0, 1) := by decide +kernel
theorem dX8_clear_5 : decode cX8_clear 5 = .ok (.putfield 74, 3) := by decide +kernel
theorem dX8_clear_8 : decode cX8_clear 8 = .ok (.aload_n 0, 1) := by decide +kernel
theorem dX8_clear_9 : decode cX8_clear 9 = .ok (.getfield 21, 3) := by decide +kernel
theorem dX8_clear_12 : decode cX8_clear 12 = .ok (.iconst 0, 1) := by decide +kernel
theorem dX8_clear_13 : decode cX8_clear 13 = .ok (.putfield 77, 3) := by decide +kernel
theorem dX8_clear_16 : decode cX8_clear 16 = .ok (.aload_n 0, 1) := by decide +kernel
theorem dX8_clear_17 : decode cX8_clear 17 = .ok (.getfield 35, 3) := by decide +kernel
theorem dX8_clear_20 : decode cX8_clear 20 = .ok (.iconst 0, 1) := by decide +kernel
theorem dX8_clear_21 : decode cX8_clear 21 = .ok (.putfield 78, 3) := by decide +kernel
theorem dX8_clear_24 : decode cX8_clear 24 = .ok (.aload_n 0, 1) := by decide +kernel
theorem dX8_clear_25 : decode cX8_clear 25 = .ok (.getfield 42, 3) := by decide +kernel
theorem dX8_clear_28 : decode cX8_clear 28 = .ok (.iconst 0, 1) := by decide +kernel
theorem dX8_clear_29 : decode cX8_clear 29 = .ok (.putfield 79, 3) := by decide +kernel
theorem dX8_clear_32 : decode cX8_clear 32 = .ok (.iconst 0, 1) := by decide +kernel
theorem dX8_clear_33 : decode cX8_clear 33 = .ok (.istore_n 1, 1) := by decide +kernel
theorem dX8_clear_34 : decode cX8_clear 34 = .ok (.iload_n 1, 1) := by decide +kernel
theorem dX8_clear_35 : decode cX8_clear 35 = .ok (.iconst 2, 1) := by decide +kernel
theorem dX8_clear_36 : decode cX8_clear 36 = .ok (.if_icmp .gt 19, 3) := by decide +kernel
theorem dX8_clear_39 : decode cX8_clear 39 = .ok (.aload_n 0, 1) := by decide +kernel
theorem dX8_clear_40 : decode cX8_clear 40 = .ok (.getfield 28, 3) := by decide +kernel
theorem dX8_clear_43 : decode cX8_clear 43 = .ok (.getfield 80, 3) := by decide +kernel
theorem dX8_clear_46 : decode cX8_clear 46 = .ok (.iload_n 1, 1) := by decide +kernel
theorem dX8_clear_47 : decode cX8_clear 47 = .ok (.iconst 0, 1) := by decide +kernel
theorem dX8_clear_48 : decode cX8_clear 48 = .ok (.iastore, 1) := by decide +kernel
theorem dX8_clear_49 : decode cX8_clear 49 = .ok (.iinc 1 1, 3) := by decide +kernel
theorem dX8_clear_52 : decode cX8_clear 52 = .ok (.goto (-18), 3) := by decide +kernel
theorem dX8_clear_55 : decode cX8_clear 55 = .ok (.aload_n 0, 1) := by decide +kernel
theorem dX8_clear_56 : decode cX8_clear 56 = .ok (.iconst 0, 1) := by decide +kernel
theorem dX8_clear_57 : decode cX8_clear 57 = .ok (.putfield 46, 3) := by decide +kernel
theorem dX8_clear_60 : decode cX8_clear 60 = .ok (.aload_n 0, 1) := by decide +kernel
theorem dX8_clear_61 : decode cX8_clear 61 = .ok (.iconst 0, 1) := by decide +kernel
theorem dX8_clear_62 : decode cX8_clear 62 = .ok (.putfield 50, 3) := by decide +kernel
theorem dX8_clear_65 : decode cX8_clear 65 = .ok (.aload_n 0, 1) := by decide +kernel
theorem dX8_clear_66 : decode cX8_clear 66 = .ok (.iconst 0, 1) := by decide +kernel
theorem dX8_clear_67 : decode cX8_clear 67 = .ok (.putfield 53, 3) := by decide +kernel
theorem dX8_clear_70 : decode cX8_clear 70 = .ok (.aload_n 0, 1) := by decide +kernel
theorem dX8_clear_71 : decode cX8_clear 71 = .ok (.iconst 0, 1) := by decide +kernel
theorem dX8_clear_72 : decode cX8_clear 72 = .ok (.putfield 56, 3) := by decide +kernel
theorem dX8_clear_75 : decode cX8_clear 75 = .ok (.aload_n 0, 1) := by decide +kernel
theorem dX8_clear_76 : decode cX8_clear 76 = .ok (.iconst 0, 1) := by decide +kernel
theorem dX8_clear_77 : decode cX8_clear 77 = .ok (.putfield 59, 3) := by decide +kernel
theorem dX8_clear_80 : decode cX8_clear 80 = .ok (.aload_n 0, 1) := by decide +kernel
theorem dX8_clear_81 : decode cX8_clear 81 = .ok (.iconst 0, 1) := by decide +kernel
theorem dX8_clear_82 : decode cX8_clear 82 = .ok (.putfield 62, 3) := by decide +kernel
theorem dX8_clear_85 : decode cX8_clear 85 = .ok (.aload_n 0, 1) := by decide +kernel
theorem dX8_clear_86 : decode cX8_clear 86 = .ok (.iconst 0, 1) := by decide +kernel
theorem dX8_clear_87 : decode cX8_clear 87 = .ok (.putfield 65, 3) := by decide +kernel
theorem dX8_clear_90 : decode cX8_clear 90 = .ok (.aload_n 0, 1) := by decide +kernel
theorem dX8_clear_91 : decode cX8_clear 91 = .ok (.iconst 0, 1) := by decide +kernel
theorem dX8_clear_92 : decode cX8_clear 92 = .ok (.putfield 68, 3) := by decide +kernel
theorem dX8_clear_95 : decode cX8_clear 95 = .ok (.aload_n 0, 1) := by decide +kernel
theorem dX8_clear_96 : decode cX8_clear 96 = .ok (.iconst 0, 1) := by decide +kernel
theorem dX8_clear_97 : decode cX8_clear 97 = .ok (.putfield 71, 3) := by decide +kernel
theorem dX8_clear_100 : decode cX8_clear 100 = .ok (.return_, 1) := by decide +kernel
theorem dX8_takeFrom_0 : decode cX8_takeFrom 0 = .ok (.aload_n 0, 1) := by decide +kernel
theorem dX8_takeFrom_1 : decode cX8_takeFrom 1 = .ok (.getfield 12, 3) := by decide +kernel
theorem dX8_takeFrom_4 : decode cX8_takeFrom 4 = .ok (.aload_n 1, 1) := by decide +kernel
theorem dX8_takeFrom_5 : decode cX8_takeFrom 5 = .ok (.getfield 12, 3) := by decide +kernel
theorem dX8_takeFrom_8 : decode cX8_takeFrom 8 = .ok (.invokevirtual 84, 3) := by decide +kernel
theorem dX8_takeFrom_11 : decode cX8_takeFrom 11 = .ok (.aload_n 0, 1) := by decide +kernel
theorem dX8_takeFrom_12 : decode cX8_takeFrom 12 = .ok (.getfield 21, 3) := by decide +kernel
theorem dX8_takeFrom_15 : decode cX8_takeFrom 15 = .ok (.aload_n 1, 1) := by decide +kernel
theorem dX8_takeFrom_16 : decode cX8_takeFrom 16 = .ok (.getfield 21, 3) := by decide +kernel
theorem dX8_takeFrom_19 : decode cX8_takeFrom 19 = .ok (.invokevirtual 88, 3) := by decide +kernel
theorem dX8_takeFrom_22 : decode cX8_takeFrom 22 = .ok (.aload_n 0, 1) := by decide +kernel
theorem dX8_takeFrom_23 : decode cX8_takeFrom 23 = .ok (.getfield 28, 3) := by decide +kernel
theorem dX8_takeFrom_26 : decode cX8_takeFrom 26 = .ok (.aload_n 1, 1) := by decide +kernel
theorem dX8_takeFrom_27 : decode cX8_takeFrom 27 = .ok (.getfield 28, 3) := by decide +kernel
theorem dX8_takeFrom_30 : decode cX8_takeFrom 30 = .ok (.invokevirtual 91, 3) := by decide +kernel
theorem dX8_takeFrom_33 : decode cX8_takeFrom 33 = .ok (.aload_n 0, 1) := by decide +kernel
theorem dX8_takeFrom_34 : decode cX8_takeFrom 34 = .ok (.getfield 35, 3) := by decide +kernel
theorem dX8_takeFrom_37 : decode cX8_takeFrom 37 = .ok (.aload_n 1, 1) := by decide +kernel
theorem dX8_takeFrom_38 : decode cX8_takeFrom 38 = .ok (.getfield 35, 3) := by decide +kernel
theorem dX8_takeFrom_41 : decode cX8_takeFrom 41 = .ok (.invokevirtual 94, 3) := by decide +kernel
theorem dX8_takeFrom_44 : decode cX8_takeFrom 44 = .ok (.aload_n 0, 1) := by decide +kernel
theorem dX8_takeFrom_45 : decode cX8_takeFrom 45 = .ok (.getfield 42, 3) := by decide +kernel
theorem dX8_takeFrom_48 : decode cX8_takeFrom 48 = .ok (.aload_n 1, 1) := by decide +kernel
theorem dX8_takeFrom_49 : decode cX8_takeFrom 49 = .ok (.getfield 42, 3) := by decide +kernel
theorem dX8_takeFrom_52 : decode cX8_takeFrom 52 = .ok (.invokevirtual 97, 3) := by decide +kernel
theorem dX8_takeFrom_55 : decode cX8_takeFrom 55 = .ok (.aload_n 0, 1) := by decide +kernel
theorem dX8_takeFrom_56 : decode cX8_takeFrom 56 = .ok (.aload_n 1, 1) := by decide +kernel
theorem dX8_takeFrom_57 : decode cX8_takeFrom 57 = .ok (.getfield 46, 3) := by decide +kernel
theorem dX8_takeFrom_60 : decode cX8_takeFrom 60 = .ok (.putfield 46, 3) := by decide +kernel
theorem dX8_takeFrom_63 : decode cX8_takeFrom 63 = .ok (.aload_n 0, 1) := by decide +kernel
theorem dX8_takeFrom_64 : decode cX8_takeFrom 64 = .ok (.aload_n 1, 1) := by decide +kernel
theorem dX8_takeFrom_65 : decode cX8_takeFrom 65 = .ok (.getfield 50, 3) := by decide +kernel
theorem dX8_takeFrom_68 : decode cX8_takeFrom 68 = .ok (.putfield 50, 3) := by decide +kernel
theorem dX8_takeFrom_71 : decode cX8_takeFrom 71 = .ok (.aload_n 0, 1) := by decide +kernel
theorem dX8_takeFrom_72 : decode cX8_takeFrom 72 = .ok (.aload_n 1, 1) := by decide +kernel
theorem dX8_takeFrom_73 : decode cX8_takeFrom 73 = .ok (.getfield 53, 3) := by decide +kernel
theorem dX8_takeFrom_76 : decode cX8_takeFrom 76 = .ok (.putfield 53, 3) := by decide +kernel
theorem dX8_takeFrom_79 : decode cX8_takeFrom 79 = .ok (.aload_n 0, 1) := by decide +kernel
theorem dX8_takeFrom_80 : decode cX8_takeFrom 80 = .ok (.aload_n 1, 1) := by decide +kernel
theorem dX8_takeFrom_81 : decode cX8_takeFrom 81 = .ok (.getfield 56, 3) := by decide +kernel
theorem dX8_takeFrom_84 : decode cX8_takeFrom 84 = .ok (.putfield 56, 3) := by decide +kernel
theorem dX8_takeFrom_87 : decode cX8_takeFrom 87 = .ok (.aload_n 0, 1) := by decide +kernel
theorem dX8_takeFrom_88 : decode cX8_takeFrom 88 = .ok (.aload_n 1, 1) := by decide +kernel
theorem dX8_takeFrom_89 : decode cX8_takeFrom 89 = .ok (.getfield 59, 3) := by decide +kernel
theorem dX8_takeFrom_92 : decode cX8_takeFrom 92 = .ok (.putfield 59, 3) := by decide +kernel
theorem dX8_takeFrom_95 : decode cX8_takeFrom 95 = .ok (.aload_n 0, 1) := by decide +kernel
theorem dX8_takeFrom_96 : decode cX8_takeFrom 96 = .ok (.aload_n 1, 1) := by decide +kernel
theorem dX8_takeFrom_97 : decode cX8_takeFrom 97 = .ok (.getfield 62, 3) := by decide +kernel
theorem dX8_takeFrom_100 : decode cX8_takeFrom 100 = .ok (.putfield 62, 3) := by decide +kernel
theorem dX8_takeFrom_103 : decode cX8_takeFrom 103 = .ok (.aload_n 0, 1) := by decide +kernel
theorem dX8_takeFrom_104 : decode cX8_takeFrom 104 = .ok (.aload_n 1, 1) := by decide +kernel
theorem dX8_takeFrom_105 : decode cX8_takeFrom 105 = .ok (.getfield 65, 3) := by decide +kernel
theorem dX8_takeFrom_108 : decode cX8_takeFrom 108 = .ok (.putfield 65, 3) := by decide +kernel
theorem dX8_takeFrom_111 : decode cX8_takeFrom 111 = .ok (.aload_n 0, 1) := by decide +kernel
theorem dX8_takeFrom_112 : decode cX8_takeFrom 112 = .ok (.aload_n 1, 1) := by decide +kernel
theorem dX8_takeFrom_113 : decode cX8_takeFrom 113 = .ok (.getfield 68, 3) := by decide +kernel
theorem dX8_takeFrom_116 : decode cX8_takeFrom 116 = .ok (.putfield 68, 3) := by decide +kernel
theorem dX8_takeFrom_119 : decode cX8_takeFrom 119 = .ok (.aload_n 0, 1) := by decide +kernel
theorem dX8_takeFrom_120 : decode cX8_takeFrom 120 = .ok (.aload_n 1, 1) := by decide +kernel
theorem dX8_takeFrom_121 : decode cX8_takeFrom 121 = .ok (.getfield 71, 3) := by decide +kernel
theorem dX8_takeFrom_124 : decode cX8_takeFrom 124 = .ok (.putfield 71, 3) := by decide +kernel
theorem dX8_takeFrom_127 : decode cX8_takeFrom 127 = .ok (.return_, 1) := by decide +kernel
theorem dX8_refusalToPrint_0 : decode cX8_refusalToPrint 0 = .ok (.iload_n 2, 1) := by decide +kernel
theorem dX8_refusalToPrint_1 : decode cX8_refusalToPrint 1 = .ok (.aload_n 0, 1) := by decide +kernel
theorem dX8_refusalToPrint_2 : decode cX8_refusalToPrint 2 = .ok (.getfield 46, 3) := by decide +kernel
theorem dX8_refusalToPrint_5 : decode cX8_refusalToPrint 5 = .ok (.iconst 1, 1) := by decide +kernel
theorem dX8_refusalToPrint_6 : decode cX8_refusalToPrint 6 = .ok (.iadd, 1) := by decide +kernel
theorem dX8_refusalToPrint_7 : decode cX8_refusalToPrint 7 = .ok (.aload_n 0, 1) := by decide +kernel
theorem dX8_refusalToPrint_8 : decode cX8_refusalToPrint 8 = .ok (.getfield 46, 3) := by decide +kernel
theorem dX8_refusalToPrint_11 : decode cX8_refusalToPrint 11 = .ok (.bipush 30, 2) := by decide +kernel
theorem dX8_refusalToPrint_13 : decode cX8_refusalToPrint 13 = .ok (.iadd, 1) := by decide +kernel
theorem dX8_refusalToPrint_14 : decode cX8_refusalToPrint 14 = .ok (.invokestatic 100, 3) := by decide +kernel
theorem dX8_refusalToPrint_17 : decode cX8_refusalToPrint 17 = .ok (.ifCond .ne 5, 3) := by decide +kernel
theorem dX8_refusalToPrint_20 : decode cX8_refusalToPrint 20 = .ok (.iconst 1, 1) := by decide +kernel
theorem dX8_refusalToPrint_21 : decode cX8_refusalToPrint 21 = .ok (.ireturn, 1) := by decide +kernel
theorem dX8_refusalToPrint_22 : decode cX8_refusalToPrint 22 = .ok (.aload_n 0, 1) := by decide +kernel
theorem dX8_refusalToPrint_23 : decode cX8_refusalToPrint 23 = .ok (.getfield 35, 3) := by decide +kernel
theorem dX8_refusalToPrint_26 : decode cX8_refusalToPrint 26 = .ok (.iload_n 1, 1) := by decide +kernel
theorem dX8_refusalToPrint_27 : decode cX8_refusalToPrint 27 = .ok (.iload_n 2, 1) := by decide +kernel
theorem dX8_refusalToPrint_28 : decode cX8_refusalToPrint 28 = .ok (.invokevirtual 104, 3) := by decide +kernel
theorem dX8_refusalToPrint_31 : decode cX8_refusalToPrint 31 = .ok (.iconst (-1), 1) := by decide +kernel
theorem dX8_refusalToPrint_32 : decode cX8_refusalToPrint 32 = .ok (.if_icmp .eq 5, 3) := by decide +kernel
theorem dX8_refusalToPrint_35 : decode cX8_refusalToPrint 35 = .ok (.iconst 2, 1) := by decide +kernel
theorem dX8_refusalToPrint_36 : decode cX8_refusalToPrint 36 = .ok (.ireturn, 1) := by decide +kernel
theorem dX8_refusalToPrint_37 : decode cX8_refusalToPrint 37 = .ok (.aload_n 0, 1) := by decide +kernel
theorem dX8_refusalToPrint_38 : decode cX8_refusalToPrint 38 = .ok (.getfield 35, 3) := by decide +kernel
theorem dX8_refusalToPrint_41 : decode cX8_refusalToPrint 41 = .ok (.getfield 78, 3) := by decide +kernel
theorem dX8_refusalToPrint_44 : decode cX8_refusalToPrint 44 = .ok (.bipush 30, 2) := by decide +kernel
theorem dX8_refusalToPrint_46 : decode cX8_refusalToPrint 46 = .ok (.if_icmp .lt 7, 3) := by decide +kernel
theorem dX8_refusalToPrint_49 : decode cX8_refusalToPrint 49 = .ok (.iconst 3, 1) := by decide +kernel
theorem dX8_refusalToPrint_50 : decode cX8_refusalToPrint 50 = .ok (.goto 4, 3) := by decide +kernel
theorem dX8_refusalToPrint_53 : decode cX8_refusalToPrint 53 = .ok (.iconst 0, 1) := by decide +kernel
theorem dX8_refusalToPrint_54 : decode cX8_refusalToPrint 54 = .ok (.ireturn, 1) := by decide +kernel
theorem dX8_canPayBackPage_0 : decode cX8_canPayBackPage 0 = .ok (.aload_n 0, 1) := by decide +kernel
theorem dX8_canPayBackPage_1 : decode cX8_canPayBackPage 1 = .ok (.getfield 50, 3) := by decide +kernel
theorem dX8_canPayBackPage_4 : decode cX8_canPayBackPage 4 = .ok (.aload_n 0, 1) := by decide +kernel
theorem dX8_canPayBackPage_5 : decode cX8_canPayBackPage 5 = .ok (.getfield 35, 3) := by decide +kernel
theorem dX8_canPayBackPage_8 : decode cX8_canPayBackPage 8 = .ok (.iload_n 1, 1) := by decide +kernel
theorem dX8_canPayBackPage_9 : decode cX8_canPayBackPage 9 = .ok (.invokevirtual 108, 3) := by decide +kernel
theorem dX8_canPayBackPage_12 : decode cX8_canPayBackPage 12 = .ok (.if_icmp .lt 7, 3) := by decide +kernel
theorem dX8_canPayBackPage_15 : decode cX8_canPayBackPage 15 = .ok (.iconst 1, 1) := by decide +kernel
theorem dX8_canPayBackPage_16 : decode cX8_canPayBackPage 16 = .ok (.goto 4, 3) := by decide +kernel
theorem dX8_canPayBackPage_19 : decode cX8_canPayBackPage 19 = .ok (.iconst 0, 1) := by decide +kernel
theorem dX8_canPayBackPage_20 : decode cX8_canPayBackPage 20 = .ok (.ireturn, 1) := by decide +kernel
theorem dX8_takeBackPage_0 : decode cX8_takeBackPage 0 = .ok (.aload_n 0, 1) := by decide +kernel
theorem dX8_takeBackPage_1 : decode cX8_takeBackPage 1 = .ok (.getfield 35, 3) := by decide +kernel
theorem dX8_takeBackPage_4 : decode cX8_takeBackPage 4 = .ok (.iload_n 1, 1) := by decide +kernel
theorem dX8_takeBackPage_5 : decode cX8_takeBackPage 5 = .ok (.invokevirtual 108, 3) := by decide +kernel
theorem dX8_takeBackPage_8 : decode cX8_takeBackPage 8 = .ok (.istore_n 2, 1) := by decide +kernel
theorem dX8_takeBackPage_9 : decode cX8_takeBackPage 9 = .ok (.aload_n 0, 1) := by decide +kernel
theorem dX8_takeBackPage_10 : decode cX8_takeBackPage 10 = .ok (.getfield 35, 3) := by decide +kernel
theorem dX8_takeBackPage_13 : decode cX8_takeBackPage 13 = .ok (.iload_n 1, 1) := by decide +kernel
theorem dX8_takeBackPage_14 : decode cX8_takeBackPage 14 = .ok (.invokevirtual 112, 3) := by decide +kernel
theorem dX8_takeBackPage_17 : decode cX8_takeBackPage 17 = .ok (.istore_n 3, 1) := by decide +kernel
theorem dX8_takeBackPage_18 : decode cX8_takeBackPage 18 = .ok (.aload_n 0, 1) := by decide +kernel
theorem dX8_takeBackPage_19 : decode cX8_takeBackPage 19 = .ok (.getfield 35, 3) := by decide +kernel
theorem dX8_takeBackPage_22 : decode cX8_takeBackPage 22 = .ok (.iload_n 1, 1) := by decide +kernel
theorem dX8_takeBackPage_23 : decode cX8_takeBackPage 23 = .ok (.invokevirtual 115, 3) := by decide +kernel
theorem dX8_takeBackPage_26 : decode cX8_takeBackPage 26 = .ok (.istore 4, 2) := by decide +kernel
theorem dX8_takeBackPage_28 : decode cX8_takeBackPage 28 = .ok (.iload_n 3, 1) := by decide +kernel
theorem dX8_takeBackPage_29 : decode cX8_takeBackPage 29 = .ok (.istore 5, 2) := by decide +kernel
theorem dX8_takeBackPage_31 : decode cX8_takeBackPage 31 = .ok (.iload 5, 2) := by decide +kernel
theorem dX8_takeBackPage_33 : decode cX8_takeBackPage 33 = .ok (.iload 4, 2) := by decide +kernel
theorem dX8_takeBackPage_35 : decode cX8_takeBackPage 35 = .ok (.if_icmp .ge 57, 3) := by decide +kernel
theorem dX8_takeBackPage_38 : decode cX8_takeBackPage 38 = .ok (.aload_n 0, 1) := by decide +kernel
theorem dX8_takeBackPage_39 : decode cX8_takeBackPage 39 = .ok (.getfield 12, 3) := by decide +kernel
theorem dX8_takeBackPage_42 : decode cX8_takeBackPage 42 = .ok (.aload_n 0, 1) := by decide +kernel
theorem dX8_takeBackPage_43 : decode cX8_takeBackPage 43 = .ok (.getfield 35, 3) := by decide +kernel
theorem dX8_takeBackPage_46 : decode cX8_takeBackPage 46 = .ok (.getfield 118, 3) := by decide +kernel
theorem dX8_takeBackPage_49 : decode cX8_takeBackPage 49 = .ok (.iload 5, 2) := by decide +kernel
theorem dX8_takeBackPage_51 : decode cX8_takeBackPage 51 = .ok (.iaload, 1) := by decide +kernel
theorem dX8_takeBackPage_52 : decode cX8_takeBackPage 52 = .ok (.bipush (-5), 2) := by decide +kernel
theorem dX8_takeBackPage_54 : decode cX8_takeBackPage 54 = .ok (.invokevirtual 120, 3) := by decide +kernel
theorem dX8_takeBackPage_57 : decode cX8_takeBackPage 57 = .ok (.aload_n 0, 1) := by decide +kernel
theorem dX8_takeBackPage_58 : decode cX8_takeBackPage 58 = .ok (.dup, 1) := by decide +kernel
theorem dX8_takeBackPage_59 : decode cX8_takeBackPage 59 = .ok (.getfield 65, 3) := by decide +kernel
theorem dX8_takeBackPage_62 : decode cX8_takeBackPage 62 = .ok (.aload_n 0, 1) := by decide +kernel
theorem dX8_takeBackPage_63 : decode cX8_takeBackPage 63 = .ok (.getfield 35, 3) := by decide +kernel
theorem dX8_takeBackPage_66 : decode cX8_takeBackPage 66 = .ok (.getfield 124, 3) := by decide +kernel
theorem dX8_takeBackPage_69 : decode cX8_takeBackPage 69 = .ok (.iload 5, 2) := by decide +kernel
theorem dX8_takeBackPage_71 : decode cX8_takeBackPage 71 = .ok (.iaload, 1) := by decide +kernel
theorem dX8_takeBackPage_72 : decode cX8_takeBackPage 72 = .ok (.iadd, 1) := by decide +kernel
theorem dX8_takeBackPage_73 : decode cX8_takeBackPage 73 = .ok (.putfield 65, 3) := by decide +kernel
theorem dX8_takeBackPage_76 : decode cX8_takeBackPage 76 = .ok (.aload_n 0, 1) := by decide +kernel
theorem dX8_takeBackPage_77 : decode cX8_takeBackPage 77 = .ok (.dup, 1) := by decide +kernel
theorem dX8_takeBackPage_78 : decode cX8_takeBackPage 78 = .ok (.getfield 59, 3) := by decide +kernel
theorem dX8_takeBackPage_81 : decode cX8_takeBackPage 81 = .ok (.iconst 1, 1) := by decide +kernel
theorem dX8_takeBackPage_82 : decode cX8_takeBackPage 82 = .ok (.iadd, 1) := by decide +kernel
theorem dX8_takeBackPage_83 : decode cX8_takeBackPage 83 = .ok (.putfield 59, 3) := by decide +kernel
theorem dX8_takeBackPage_86 : decode cX8_takeBackPage 86 = .ok (.iinc 5 1, 3) := by decide +kernel
theorem dX8_takeBackPage_89 : decode cX8_takeBackPage 89 = .ok (.goto (-58), 3) := by decide +kernel
theorem dX8_takeBackPage_92 : decode cX8_takeBackPage 92 = .ok (.aload_n 0, 1) := by decide +kernel
theorem dX8_takeBackPage_93 : decode cX8_takeBackPage 93 = .ok (.getfield 35, 3) := by decide +kernel
theorem dX8_takeBackPage_96 : decode cX8_takeBackPage 96 = .ok (.iload_n 3, 1) := by decide +kernel
theorem dX8_takeBackPage_97 : decode cX8_takeBackPage 97 = .ok (.iload 4, 2) := by decide +kernel
theorem dX8_takeBackPage_99 : decode cX8_takeBackPage 99 = .ok (.invokevirtual 127, 3) := by decide +kernel
theorem dX8_takeBackPage_102 : decode cX8_takeBackPage 102 = .ok (.aload_n 0, 1) := by decide +kernel
theorem dX8_takeBackPage_103 : decode cX8_takeBackPage 103 = .ok (.iload_n 2, 1) := by decide +kernel
theorem dX8_takeBackPage_104 : decode cX8_takeBackPage 104 = .ok (.invokevirtual 130, 3) := by decide +kernel
theorem dX8_takeBackPage_107 : decode cX8_takeBackPage 107 = .ok (.iload_n 2, 1) := by decide +kernel
theorem dX8_takeBackPage_108 : decode cX8_takeBackPage 108 = .ok (.ireturn, 1) := by decide +kernel
theorem dX8_letDaysPass_0 : decode cX8_letDaysPass 0 = .ok (.iconst 0, 1) := by decide +kernel
theorem dX8_letDaysPass_1 : decode cX8_letDaysPass 1 = .ok (.istore_n 2, 1) := by decide +kernel
theorem dX8_letDaysPass_2 : decode cX8_letDaysPass 2 = .ok (.iload_n 2, 1) := by decide +kernel
theorem dX8_letDaysPass_3 : decode cX8_letDaysPass 3 = .ok (.iload_n 1, 1) := by decide +kernel
theorem dX8_letDaysPass_4 : decode cX8_letDaysPass 4 = .ok (.if_icmp .ge 106, 3) := by decide +kernel
theorem dX8_letDaysPass_7 : decode cX8_letDaysPass 7 = .ok (.aload_n 0, 1) := by decide +kernel
theorem dX8_letDaysPass_8 : decode cX8_letDaysPass 8 = .ok (.dup, 1) := by decide +kernel
theorem dX8_letDaysPass_9 : decode cX8_letDaysPass 9 = .ok (.getfield 46, 3) := by decide +kernel
theorem dX8_letDaysPass_12 : decode cX8_letDaysPass 12 = .ok (.iconst 1, 1) := by decide +kernel
theorem dX8_letDaysPass_13 : decode cX8_letDaysPass 13 = .ok (.iadd, 1) := by decide +kernel
theorem dX8_letDaysPass_14 : decode cX8_letDaysPass 14 = .ok (.putfield 46, 3) := by decide +kernel
theorem dX8_letDaysPass_17 : decode cX8_letDaysPass 17 = .ok (.iconst 0, 1) := by decide +kernel
theorem dX8_letDaysPass_18 : decode cX8_letDaysPass 18 = .ok (.istore_n 3, 1) := by decide +kernel
theorem dX8_letDaysPass_19 : decode cX8_letDaysPass 19 = .ok (.iload_n 3, 1) := by decide +kernel
theorem dX8_letDaysPass_20 : decode cX8_letDaysPass 20 = .ok (.aload_n 0, 1) := by decide +kernel
theorem dX8_letDaysPass_21 : decode cX8_letDaysPass 21 = .ok (.getfield 21, 3) := by decide +kernel
theorem dX8_letDaysPass_24 : decode cX8_letDaysPass 24 = .ok (.getfield 77, 3) := by decide +kernel
theorem dX8_letDaysPass_27 : decode cX8_letDaysPass 27 = .ok (.if_icmp .ge 29, 3) := by decide +kernel
theorem dX8_letDaysPass_30 : decode cX8_letDaysPass 30 = .ok (.aload_n 0, 1) := by decide +kernel
theorem dX8_letDaysPass_31 : decode cX8_letDaysPass 31 = .ok (.getfield 21, 3) := by decide +kernel
theorem dX8_letDaysPass_34 : decode cX8_letDaysPass 34 = .ok (.iload_n 3, 1) := by decide +kernel
theorem dX8_letDaysPass_35 : decode cX8_letDaysPass 35 = .ok (.aload_n 0, 1) := by decide +kernel
theorem dX8_letDaysPass_36 : decode cX8_letDaysPass 36 = .ok (.getfield 46, 3) := by decide +kernel
theorem dX8_letDaysPass_39 : decode cX8_letDaysPass 39 = .ok (.invokevirtual 134, 3) := by decide +kernel
theorem dX8_letDaysPass_42 : decode cX8_letDaysPass 42 = .ok (.ifCond .eq 8, 3) := by decide +kernel
theorem dX8_letDaysPass_45 : decode cX8_letDaysPass 45 = .ok (.aload_n 0, 1) := by decide +kernel
theorem dX8_letDaysPass_46 : decode cX8_letDaysPass 46 = .ok (.iload_n 3, 1) := by decide +kernel
theorem dX8_letDaysPass_47 : decode cX8_letDaysPass 47 = .ok (.invokevirtual 138, 3) := by decide +kernel
theorem dX8_letDaysPass_50 : decode cX8_letDaysPass 50 = .ok (.iinc 3 1, 3) := by decide +kernel
theorem dX8_letDaysPass_53 : decode cX8_letDaysPass 53 = .ok (.goto (-34), 3) := by decide +kernel
theorem dX8_letDaysPass_56 : decode cX8_letDaysPass 56 = .ok (.iconst 0, 1) := by decide +kernel
theorem dX8_letDaysPass_57 : decode cX8_letDaysPass 57 = .ok (.istore_n 3, 1) := by decide +kernel
theorem dX8_letDaysPass_58 : decode cX8_letDaysPass 58 = .ok (.iload_n 3, 1) := by decide +kernel
theorem dX8_letDaysPass_59 : decode cX8_letDaysPass 59 = .ok (.aload_n 0, 1) := by decide +kernel
theorem dX8_letDaysPass_60 : decode cX8_letDaysPass 60 = .ok (.getfield 12, 3) := by decide +kernel
theorem dX8_letDaysPass_63 : decode cX8_letDaysPass 63 = .ok (.getfield 74, 3) := by decide +kernel
theorem dX8_letDaysPass_66 : decode cX8_letDaysPass 66 = .ok (.if_icmp .ge 21, 3) := by decide +kernel
theorem dX8_letDaysPass_69 : decode cX8_letDaysPass 69 = .ok (.aload_n 0, 1) := by decide +kernel
theorem dX8_letDaysPass_70 : decode cX8_letDaysPass 70 = .ok (.iload_n 3, 1) := by decide +kernel
theorem dX8_letDaysPass_71 : decode cX8_letDaysPass 71 = .ok (.aload_n 0, 1) := by decide +kernel
theorem dX8_letDaysPass_72 : decode cX8_letDaysPass 72 = .ok (.getfield 28, 3) := by decide +kernel
theorem dX8_letDaysPass_75 : decode cX8_letDaysPass 75 = .ok (.invokevirtual 141, 3) := by decide +kernel
theorem dX8_letDaysPass_78 : decode cX8_letDaysPass 78 = .ok (.invokevirtual 145, 3) := by decide +kernel
theorem dX8_letDaysPass_81 : decode cX8_letDaysPass 81 = .ok (.iinc 3 1, 3) := by decide +kernel
theorem dX8_letDaysPass_84 : decode cX8_letDaysPass 84 = .ok (.goto (-26), 3) := by decide +kernel
theorem dX8_letDaysPass_87 : decode cX8_letDaysPass 87 = .ok (.aload_n 0, 1) := by decide +kernel
theorem dX8_letDaysPass_88 : decode cX8_letDaysPass 88 = .ok (.getfield 46, 3) := by decide +kernel
theorem dX8_letDaysPass_91 : decode cX8_letDaysPass 91 = .ok (.bipush 12, 2) := by decide +kernel
theorem dX8_letDaysPass_93 : decode cX8_letDaysPass 93 = .ok (.irem, 1) := by decide +kernel
theorem dX8_letDaysPass_94 : decode cX8_letDaysPass 94 = .ok (.ifCond .ne 10, 3) := by decide +kernel
theorem dX8_letDaysPass_97 : decode cX8_letDaysPass 97 = .ok (.aload_n 0, 1) := by decide +kernel
theorem dX8_letDaysPass_98 : decode cX8_letDaysPass 98 = .ok (.getfield 28, 3) := by decide +kernel
theorem dX8_letDaysPass_101 : decode cX8_letDaysPass 101 = .ok (.invokevirtual 148, 3) := by decide +kernel
theorem dX8_letDaysPass_104 : decode cX8_letDaysPass 104 = .ok (.iinc 2 1, 3) := by decide +kernel
theorem dX8_letDaysPass_107 : decode cX8_letDaysPass 107 = .ok (.goto (-105), 3) := by decide +kernel
theorem dX8_letDaysPass_110 : decode cX8_letDaysPass 110 = .ok (.return_, 1) := by decide +kernel
theorem dX8_sellAt_0 : decode cX8_sellAt 0 = .ok (.aload_n 0, 1) := by decide +kernel
theorem dX8_sellAt_1 : decode cX8_sellAt 1 = .ok (.getfield 21, 3) := by decide +kernel
theorem dX8_sellAt_4 : decode cX8_sellAt 4 = .ok (.getfield 151, 3) := by decide +kernel
theorem dX8_sellAt_7 : decode cX8_sellAt 7 = .ok (.iload_n 1, 1) := by decide +kernel
theorem dX8_sellAt_8 : decode cX8_sellAt 8 = .ok (.iaload, 1) := by decide +kernel
theorem dX8_sellAt_9 : decode cX8_sellAt 9 = .ok (.istore_n 2, 1) := by decide +kernel
theorem dX8_sellAt_10 : decode cX8_sellAt 10 = .ok (.aload_n 0, 1) := by decide +kernel
theorem dX8_sellAt_11 : decode cX8_sellAt 11 = .ok (.getfield 21, 3) := by decide +kernel
theorem dX8_sellAt_14 : decode cX8_sellAt 14 = .ok (.getfield 152, 3) := by decide +kernel
theorem dX8_sellAt_17 : decode cX8_sellAt 17 = .ok (.iload_n 1, 1) := by decide +kernel
theorem dX8_sellAt_18 : decode cX8_sellAt 18 = .ok (.iaload, 1) := by decide +kernel
theorem dX8_sellAt_19 : decode cX8_sellAt 19 = .ok (.istore_n 3, 1) := by decide +kernel
theorem dX8_sellAt_20 : decode cX8_sellAt 20 = .ok (.iconst 0, 1) := by decide +kernel
theorem dX8_sellAt_21 : decode cX8_sellAt 21 = .ok (.istore 4, 2) := by decide +kernel
theorem dX8_sellAt_23 : decode cX8_sellAt 23 = .ok (.iload 4, 2) := by decide +kernel
theorem dX8_sellAt_25 : decode cX8_sellAt 25 = .ok (.aload_n 0, 1) := by decide +kernel
theorem dX8_sellAt_26 : decode cX8_sellAt 26 = .ok (.getfield 35, 3) := by decide +kernel
theorem dX8_sellAt_29 : decode cX8_sellAt 29 = .ok (.getfield 78, 3) := by decide +kernel
theorem dX8_sellAt_32 : decode cX8_sellAt 32 = .ok (.if_icmp .ge 146, 3) := by decide +kernel
theorem dX8_sellAt_35 : decode cX8_sellAt 35 = .ok (.aload_n 0, 1) := by decide +kernel
theorem dX8_sellAt_36 : decode cX8_sellAt 36 = .ok (.getfield 35, 3) := by decide +kernel
theorem dX8_sellAt_39 : decode cX8_sellAt 39 = .ok (.getfield 118, 3) := by decide +kernel
theorem dX8_sellAt_42 : decode cX8_sellAt 42 = .ok (.iload 4, 2) := by decide +kernel
theorem dX8_sellAt_44 : decode cX8_sellAt 44 = .ok (.iaload, 1) := by decide +kernel
theorem dX8_sellAt_45 : decode cX8_sellAt 45 = .ok (.iload_n 2, 1) := by decide +kernel
theorem dX8_sellAt_46 : decode cX8_sellAt 46 = .ok (.if_icmp .ne 126, 3) := by decide +kernel
theorem dX8_sellAt_49 : decode cX8_sellAt 49 = .ok (.aload_n 0, 1) := by decide +kernel
theorem dX8_sellAt_50 : decode cX8_sellAt 50 = .ok (.getfield 35, 3) := by decide +kernel
theorem dX8_sellAt_53 : decode cX8_sellAt 53 = .ok (.getfield 155, 3) := by decide +kernel
theorem dX8_sellAt_56 : decode cX8_sellAt 56 = .ok (.iload 4, 2) := by decide +kernel
theorem dX8_sellAt_58 : decode cX8_sellAt 58 = .ok (.iaload, 1) := by decide +kernel
theorem dX8_sellAt_59 : decode cX8_sellAt 59 = .ok (.aload_n 0, 1) := by decide +kernel
theorem dX8_sellAt_60 : decode cX8_sellAt 60 = .ok (.getfield 46, 3) := by decide +kernel
theorem dX8_sellAt_63 : decode cX8_sellAt 63 = .ok (.if_icmp .le 109, 3) := by decide +kernel
theorem dX8_sellAt_66 : decode cX8_sellAt 66 = .ok (.iload_n 3, 1) := by decide +kernel
theorem dX8_sellAt_67 : decode cX8_sellAt 67 = .ok (.aload_n 0, 1) := by decide +kernel
theorem dX8_sellAt_68 : decode cX8_sellAt 68 = .ok (.getfield 12, 3) := by decide +kernel
theorem dX8_sellAt_71 : decode cX8_sellAt 71 = .ok (.iload_n 2, 1) := by decide +kernel
theorem dX8_sellAt_72 : decode cX8_sellAt 72 = .ok (.aload_n 0, 1) := by decide +kernel
theorem dX8_sellAt_73 : decode cX8_sellAt 73 = .ok (.getfield 35, 3) := by decide +kernel
theorem dX8_sellAt_76 : decode cX8_sellAt 76 = .ok (.getfield 124, 3) := by decide +kernel
theorem dX8_sellAt_79 : decode cX8_sellAt 79 = .ok (.iload 4, 2) := by decide +kernel
theorem dX8_sellAt_81 : decode cX8_sellAt 81 = .ok (.iaload, 1) := by decide +kernel
theorem dX8_sellAt_82 : decode cX8_sellAt 82 = .ok (.invokevirtual 158, 3) := by decide +kernel
theorem dX8_sellAt_85 : decode cX8_sellAt 85 = .ok (.invokestatic 161, 3) := by decide +kernel
theorem dX8_sellAt_88 : decode cX8_sellAt 88 = .ok (.istore 5, 2) := by decide +kernel
theorem dX8_sellAt_90 : decode cX8_sellAt 90 = .ok (.iload 5, 2) := by decide +kernel
theorem dX8_sellAt_92 : decode cX8_sellAt 92 = .ok (.aload_n 0, 1) := by decide +kernel
theorem dX8_sellAt_93 : decode cX8_sellAt 93 = .ok (.getfield 21, 3) := by decide +kernel
theorem dX8_sellAt_96 : decode cX8_sellAt 96 = .ok (.getfield 166, 3) := by decide +kernel
theorem dX8_sellAt_99 : decode cX8_sellAt 99 = .ok (.iload_n 1, 1) := by decide +kernel
theorem dX8_sellAt_100 : decode cX8_sellAt 100 = .ok (.iaload, 1) := by decide +kernel
theorem dX8_sellAt_101 : decode cX8_sellAt 101 = .ok (.imul, 1) := by decide +kernel
theorem dX8_sellAt_102 : decode cX8_sellAt 102 = .ok (.istore 6, 2) := by decide +kernel
theorem dX8_sellAt_104 : decode cX8_sellAt 104 = .ok (.iload_n 3, 1) := by decide +kernel
theorem dX8_sellAt_105 : decode cX8_sellAt 105 = .ok (.iload 5, 2) := by decide +kernel
theorem dX8_sellAt_107 : decode cX8_sellAt 107 = .ok (.isub, 1) := by decide +kernel
theorem dX8_sellAt_108 : decode cX8_sellAt 108 = .ok (.istore_n 3, 1) := by decide +kernel
theorem dX8_sellAt_109 : decode cX8_sellAt 109 = .ok (.aload_n 0, 1) := by decide +kernel
theorem dX8_sellAt_110 : decode cX8_sellAt 110 = .ok (.getfield 35, 3) := by decide +kernel
theorem dX8_sellAt_113 : decode cX8_sellAt 113 = .ok (.getfield 124, 3) := by decide +kernel
theorem dX8_sellAt_116 : decode cX8_sellAt 116 = .ok (.iload 4, 2) := by decide +kernel
theorem dX8_sellAt_118 : decode cX8_sellAt 118 = .ok (.dup2, 1) := by decide +kernel
theorem dX8_sellAt_119 : decode cX8_sellAt 119 = .ok (.iaload, 1) := by decide +kernel
theorem dX8_sellAt_120 : decode cX8_sellAt 120 = .ok (.iload 5, 2) := by decide +kernel
theorem dX8_sellAt_122 : decode cX8_sellAt 122 = .ok (.iadd, 1) := by decide +kernel
theorem dX8_sellAt_123 : decode cX8_sellAt 123 = .ok (.iastore, 1) := by decide +kernel
theorem dX8_sellAt_124 : decode cX8_sellAt 124 = .ok (.aload_n 0, 1) := by decide +kernel
theorem dX8_sellAt_125 : decode cX8_sellAt 125 = .ok (.getfield 35, 3) := by decide +kernel
theorem dX8_sellAt_128 : decode cX8_sellAt 128 = .ok (.getfield 169, 3) := by decide +kernel
theorem dX8_sellAt_131 : decode cX8_sellAt 131 = .ok (.iload 4, 2) := by decide +kernel
theorem dX8_sellAt_133 : decode cX8_sellAt 133 = .ok (.dup2, 1) := by decide +kernel
theorem dX8_sellAt_134 : decode cX8_sellAt 134 = .ok (.iaload, 1) := by decide +kernel
theorem dX8_sellAt_135 : decode cX8_sellAt 135 = .ok (.iload 6, 2) := by decide +kernel
theorem dX8_sellAt_137 : decode cX8_sellAt 137 = .ok (.iadd, 1) := by decide +kernel
theorem dX8_sellAt_138 : decode cX8_sellAt 138 = .ok (.iastore, 1) := by decide +kernel
theorem dX8_sellAt_139 : decode cX8_sellAt 139 = .ok (.aload_n 0, 1) := by decide +kernel
theorem dX8_sellAt_140 : decode cX8_sellAt 140 = .ok (.dup, 1) := by decide +kernel
theorem dX8_sellAt_141 : decode cX8_sellAt 141 = .ok (.getfield 62, 3) := by decide +kernel
theorem dX8_sellAt_144 : decode cX8_sellAt 144 = .ok (.iload 5, 2) := by decide +kernel
theorem dX8_sellAt_146 : decode cX8_sellAt 146 = .ok (.iadd, 1) := by decide +kernel
theorem dX8_sellAt_147 : decode cX8_sellAt 147 = .ok (.putfield 62, 3) := by decide +kernel
theorem dX8_sellAt_150 : decode cX8_sellAt 150 = .ok (.aload_n 0, 1) := by decide +kernel
theorem dX8_sellAt_151 : decode cX8_sellAt 151 = .ok (.dup, 1) := by decide +kernel
theorem dX8_sellAt_152 : decode cX8_sellAt 152 = .ok (.getfield 68, 3) := by decide +kernel
theorem dX8_sellAt_155 : decode cX8_sellAt 155 = .ok (.iload 6, 2) := by decide +kernel
theorem dX8_sellAt_157 : decode cX8_sellAt 157 = .ok (.iadd, 1) := by decide +kernel
theorem dX8_sellAt_158 : decode cX8_sellAt 158 = .ok (.putfield 68, 3) := by decide +kernel
theorem dX8_sellAt_161 : decode cX8_sellAt 161 = .ok (.aload_n 0, 1) := by decide +kernel
theorem dX8_sellAt_162 : decode cX8_sellAt 162 = .ok (.dup, 1) := by decide +kernel
theorem dX8_sellAt_163 : decode cX8_sellAt 163 = .ok (.getfield 50, 3) := by decide +kernel
theorem dX8_sellAt_166 : decode cX8_sellAt 166 = .ok (.iload 6, 2) := by decide +kernel
theorem dX8_sellAt_168 : decode cX8_sellAt 168 = .ok (.iadd, 1) := by decide +kernel
theorem dX8_sellAt_169 : decode cX8_sellAt 169 = .ok (.putfield 50, 3) := by decide +kernel
theorem dX8_sellAt_172 : decode cX8_sellAt 172 = .ok (.iinc 4 1, 3) := by decide +kernel
theorem dX8_sellAt_175 : decode cX8_sellAt 175 = .ok (.goto (-152), 3) := by decide +kernel
theorem dX8_sellAt_178 : decode cX8_sellAt 178 = .ok (.return_, 1) := by decide +kernel
theorem dX8_judge_0 : decode cX8_judge 0 = .ok (.aload_n 0, 1) := by decide +kernel
theorem dX8_judge_1 : decode cX8_judge 1 = .ok (.getfield 35, 3) := by decide +kernel
theorem dX8_judge_4 : decode cX8_judge 4 = .ok (.iload_n 1, 1) := by decide +kernel
theorem dX8_judge_5 : decode cX8_judge 5 = .ok (.aload_n 0, 1) := by decide +kernel
theorem dX8_judge_6 : decode cX8_judge 6 = .ok (.getfield 46, 3) := by decide +kernel
theorem dX8_judge_9 : decode cX8_judge 9 = .ok (.invokevirtual 104, 3) := by decide +kernel
theorem dX8_judge_12 : decode cX8_judge 12 = .ok (.istore_n 3, 1) := by decide +kernel
theorem dX8_judge_13 : decode cX8_judge 13 = .ok (.iload_n 3, 1) := by decide +kernel
theorem dX8_judge_14 : decode cX8_judge 14 = .ok (.iconst (-1), 1) := by decide +kernel
theorem dX8_judge_15 : decode cX8_judge 15 = .ok (.if_icmp .ne 4, 3) := by decide +kernel
theorem dX8_judge_18 : decode cX8_judge 18 = .ok (.return_, 1) := by decide +kernel
theorem dX8_judge_19 : decode cX8_judge 19 = .ok (.aload_n 0, 1) := by decide +kernel
theorem dX8_judge_20 : decode cX8_judge 20 = .ok (.getfield 35, 3) := by decide +kernel
theorem dX8_judge_23 : decode cX8_judge 23 = .ok (.getfield 169, 3) := by decide +kernel
theorem dX8_judge_26 : decode cX8_judge 26 = .ok (.iload_n 3, 1) := by decide +kernel
theorem dX8_judge_27 : decode cX8_judge 27 = .ok (.iaload, 1) := by decide +kernel
theorem dX8_judge_28 : decode cX8_judge 28 = .ok (.istore 4, 2) := by decide +kernel
theorem dX8_judge_30 : decode cX8_judge 30 = .ok (.aload_n 0, 1) := by decide +kernel
theorem dX8_judge_31 : decode cX8_judge 31 = .ok (.getfield 35, 3) := by decide +kernel
theorem dX8_judge_34 : decode cX8_judge 34 = .ok (.getfield 172, 3) := by decide +kernel
theorem dX8_judge_37 : decode cX8_judge 37 = .ok (.iload_n 3, 1) := by decide +kernel
theorem dX8_judge_38 : decode cX8_judge 38 = .ok (.iaload, 1) := by decide +kernel
theorem dX8_judge_39 : decode cX8_judge 39 = .ok (.iload_n 2, 1) := by decide +kernel
theorem dX8_judge_40 : decode cX8_judge 40 = .ok (.if_icmp .ne 25, 3) := by decide +kernel
theorem dX8_judge_43 : decode cX8_judge 43 = .ok (.aload_n 0, 1) := by decide +kernel
theorem dX8_judge_44 : decode cX8_judge 44 = .ok (.dup, 1) := by decide +kernel
theorem dX8_judge_45 : decode cX8_judge 45 = .ok (.getfield 53, 3) := by decide +kernel
theorem dX8_judge_48 : decode cX8_judge 48 = .ok (.iconst 1, 1) := by decide +kernel
theorem dX8_judge_49 : decode cX8_judge 49 = .ok (.iadd, 1) := by decide +kernel
theorem dX8_judge_50 : decode cX8_judge 50 = .ok (.putfield 53, 3) := by decide +kernel
theorem dX8_judge_53 : decode cX8_judge 53 = .ok (.aload_n 0, 1) := by decide +kernel
theorem dX8_judge_54 : decode cX8_judge 54 = .ok (.getfield 12, 3) := by decide +kernel
theorem dX8_judge_57 : decode cX8_judge 57 = .ok (.iload_n 1, 1) := by decide +kernel
theorem dX8_judge_58 : decode cX8_judge 58 = .ok (.iconst 5, 1) := by decide +kernel
theorem dX8_judge_59 : decode cX8_judge 59 = .ok (.invokevirtual 120, 3) := by decide +kernel
theorem dX8_judge_62 : decode cX8_judge 62 = .ok (.goto 66, 3) := by decide +kernel
theorem dX8_judge_65 : decode cX8_judge 65 = .ok (.aload_n 0, 1) := by decide +kernel
theorem dX8_judge_66 : decode cX8_judge 66 = .ok (.dup, 1) := by decide +kernel
theorem dX8_judge_67 : decode cX8_judge 67 = .ok (.getfield 56, 3) := by decide +kernel
theorem dX8_judge_70 : decode cX8_judge 70 = .ok (.iconst 1, 1) := by decide +kernel
theorem dX8_judge_71 : decode cX8_judge 71 = .ok (.iadd, 1) := by decide +kernel
theorem dX8_judge_72 : decode cX8_judge 72 = .ok (.putfield 56, 3) := by decide +kernel
theorem dX8_judge_75 : decode cX8_judge 75 = .ok (.aload_n 0, 1) := by decide +kernel
theorem dX8_judge_76 : decode cX8_judge 76 = .ok (.getfield 42, 3) := by decide +kernel
theorem dX8_judge_79 : decode cX8_judge 79 = .ok (.iload_n 1, 1) := by decide +kernel
theorem dX8_judge_80 : decode cX8_judge 80 = .ok (.aload_n 0, 1) := by decide +kernel
theorem dX8_judge_81 : decode cX8_judge 81 = .ok (.getfield 46, 3) := by decide +kernel
theorem dX8_judge_84 : decode cX8_judge 84 = .ok (.invokevirtual 175, 3) := by decide +kernel
theorem dX8_judge_87 : decode cX8_judge 87 = .ok (.aload_n 0, 1) := by decide +kernel
theorem dX8_judge_88 : decode cX8_judge 88 = .ok (.iload_n 2, 1) := by decide +kernel
theorem dX8_judge_89 : decode cX8_judge 89 = .ok (.iconst 2, 1) := by decide +kernel
theorem dX8_judge_90 : decode cX8_judge 90 = .ok (.if_icmp .ne 11, 3) := by decide +kernel
theorem dX8_judge_93 : decode cX8_judge 93 = .ok (.iload 4, 2) := by decide +kernel
theorem dX8_judge_95 : decode cX8_judge 95 = .ok (.bipush 10, 2) := by decide +kernel
theorem dX8_judge_97 : decode cX8_judge 97 = .ok (.iadd, 1) := by decide +kernel
theorem dX8_judge_98 : decode cX8_judge 98 = .ok (.goto 7, 3) := by decide +kernel
theorem dX8_judge_101 : decode cX8_judge 101 = .ok (.iload 4, 2) := by decide +kernel
theorem dX8_judge_103 : decode cX8_judge 103 = .ok (.iconst 2, 1) := by decide +kernel
theorem dX8_judge_104 : decode cX8_judge 104 = .ok (.idiv, 1) := by decide +kernel
theorem dX8_judge_105 : decode cX8_judge 105 = .ok (.invokevirtual 130, 3) := by decide +kernel
theorem dX8_judge_108 : decode cX8_judge 108 = .ok (.aload_n 0, 1) := by decide +kernel
theorem dX8_judge_109 : decode cX8_judge 109 = .ok (.getfield 12, 3) := by decide +kernel
theorem dX8_judge_112 : decode cX8_judge 112 = .ok (.iload_n 1, 1) := by decide +kernel
theorem dX8_judge_113 : decode cX8_judge 113 = .ok (.iload_n 2, 1) := by decide +kernel
theorem dX8_judge_114 : decode cX8_judge 114 = .ok (.iconst 2, 1) := by decide +kernel
theorem dX8_judge_115 : decode cX8_judge 115 = .ok (.if_icmp .ne 8, 3) := by decide +kernel
theorem dX8_judge_118 : decode cX8_judge 118 = .ok (.bipush (-20), 2) := by decide +kernel
theorem dX8_judge_120 : decode cX8_judge 120 = .ok (.goto 5, 3) := by decide +kernel
theorem dX8_judge_123 : decode cX8_judge 123 = .ok (.bipush (-10), 2) := by decide +kernel
theorem dX8_judge_125 : decode cX8_judge 125 = .ok (.invokevirtual 120, 3) := by decide +kernel
theorem dX8_judge_128 : decode cX8_judge 128 = .ok (.aload_n 0, 1) := by decide +kernel
theorem dX8_judge_129 : decode cX8_judge 129 = .ok (.dup, 1) := by decide +kernel
theorem dX8_judge_130 : decode cX8_judge 130 = .ok (.getfield 65, 3) := by decide +kernel
theorem dX8_judge_133 : decode cX8_judge 133 = .ok (.aload_n 0, 1) := by decide +kernel
theorem dX8_judge_134 : decode cX8_judge 134 = .ok (.getfield 35, 3) := by decide +kernel
theorem dX8_judge_137 : decode cX8_judge 137 = .ok (.getfield 124, 3) := by decide +kernel
theorem dX8_judge_140 : decode cX8_judge 140 = .ok (.iload_n 3, 1) := by decide +kernel
theorem dX8_judge_141 : decode cX8_judge 141 = .ok (.iaload, 1) := by decide +kernel
theorem dX8_judge_142 : decode cX8_judge 142 = .ok (.iadd, 1) := by decide +kernel
theorem dX8_judge_143 : decode cX8_judge 143 = .ok (.putfield 65, 3) := by decide +kernel
theorem dX8_judge_146 : decode cX8_judge 146 = .ok (.aload_n 0, 1) := by decide +kernel
theorem dX8_judge_147 : decode cX8_judge 147 = .ok (.getfield 35, 3) := by decide +kernel
theorem dX8_judge_150 : decode cX8_judge 150 = .ok (.iload_n 3, 1) := by decide +kernel
theorem dX8_judge_151 : decode cX8_judge 151 = .ok (.iload_n 3, 1) := by decide +kernel
theorem dX8_judge_152 : decode cX8_judge 152 = .ok (.iconst 1, 1) := by decide +kernel
theorem dX8_judge_153 : decode cX8_judge 153 = .ok (.iadd, 1) := by decide +kernel
theorem dX8_judge_154 : decode cX8_judge 154 = .ok (.invokevirtual 127, 3) := by decide +kernel
theorem dX8_judge_157 : decode cX8_judge 157 = .ok (.return_, 1) := by decide +kernel
theorem dX8_payBack_0 : decode cX8_payBack 0 = .ok (.aload_n 0, 1) := by decide +kernel
theorem dX8_payBack_1 : decode cX8_payBack 1 = .ok (.dup, 1) := by decide +kernel
theorem dX8_payBack_2 : decode cX8_payBack 2 = .ok (.getfield 50, 3) := by decide +kernel
theorem dX8_payBack_5 : decode cX8_payBack 5 = .ok (.iload_n 1, 1) := by decide +kernel
theorem dX8_payBack_6 : decode cX8_payBack 6 = .ok (.isub, 1) := by decide +kernel
theorem dX8_payBack_7 : decode cX8_payBack 7 = .ok (.putfield 50, 3) := by decide +kernel
theorem dX8_payBack_10 : decode cX8_payBack 10 = .ok (.aload_n 0, 1) := by decide +kernel
theorem dX8_payBack_11 : decode cX8_payBack 11 = .ok (.dup, 1) := by decide +kernel
theorem dX8_payBack_12 : decode cX8_payBack 12 = .ok (.getfield 71, 3) := by decide +kernel
theorem dX8_payBack_15 : decode cX8_payBack 15 = .ok (.iload_n 1, 1) := by decide +kernel
theorem dX8_payBack_16 : decode cX8_payBack 16 = .ok (.iadd, 1) := by decide +kernel
theorem dX8_payBack_17 : decode cX8_payBack 17 = .ok (.putfield 71, 3) := by decide +kernel
theorem dX8_payBack_20 : decode cX8_payBack 20 = .ok (.return_, 1) := by decide +kernel
theorem dX9_init_0 : decode cX9_init 0 = .ok (.aload_n 0, 1) := by decide +kernel
theorem dX9_init_1 : decode cX9_init 1 = .ok (.invokespecial 3, 3) := by decide +kernel
theorem dX9_init_4 : decode cX9_init 4 = .ok (.aload_n 0, 1) := by decide +kernel
theorem dX9_init_5 : decode cX9_init 5 = .ok (.bipush 6, 2) := by decide +kernel
theorem dX9_init_7 : decode cX9_init 7 = .ok (.newarray .int, 2) := by decide +kernel
theorem dX9_init_9 : decode cX9_init 9 = .ok (.putfield 9, 3) := by decide +kernel
theorem dX9_init_12 : decode cX9_init 12 = .ok (.aload_n 0, 1) := by decide +kernel
theorem dX9_init_13 : decode cX9_init 13 = .ok (.bipush 6, 2) := by decide +kernel
theorem dX9_init_15 : decode cX9_init 15 = .ok (.newarray .int, 2) := by decide +kernel
theorem dX9_init_17 : decode cX9_init 17 = .ok (.putfield 15, 3) := by decide +kernel
theorem dX9_init_20 : decode cX9_init 20 = .ok (.aload_n 0, 1) := by decide +kernel
theorem dX9_init_21 : decode cX9_init 21 = .ok (.bipush 6, 2) := by decide +kernel
theorem dX9_init_23 : decode cX9_init 23 = .ok (.newarray .int, 2) := by decide +kernel
theorem dX9_init_25 : decode cX9_init 25 = .ok (.putfield 18, 3) := by decide +kernel
theorem dX9_init_28 : decode cX9_init 28 = .ok (.aload_n 0, 1) := by decide +kernel
theorem dX9_init_29 : decode cX9_init 29 = .ok (.iconst 0, 1) := by decide +kernel
theorem dX9_init_30 : decode cX9_init 30 = .ok (.putfield 21, 3) := by decide +kernel
theorem dX9_init_33 : decode cX9_init 33 = .ok (.return_, 1) := by decide +kernel
theorem dX9_has_0 : decode cX9_has 0 = .ok (.iload_n 1, 1) := by decide +kernel
theorem dX9_has_1 : decode cX9_has 1 = .ok (.ifCond .lt 15, 3) := by decide +kernel
theorem dX9_has_4 : decode cX9_has 4 = .ok (.iload_n 1, 1) := by decide +kernel
theorem dX9_has_5 : decode cX9_has 5 = .ok (.aload_n 0, 1) := by decide +kernel
theorem dX9_has_6 : decode cX9_has 6 = .ok (.getfield 21, 3) := by decide +kernel
theorem dX9_has_9 : decode cX9_has 9 = .ok (.if_icmp .ge 7, 3) := by decide +kernel
theorem dX9_has_12 : decode cX9_has 12 = .ok (.iconst 1, 1) := by decide +kernel
theorem dX9_has_13 : decode cX9_has 13 = .ok (.goto 4, 3) := by decide +kernel
theorem dX9_has_16 : decode cX9_has 16 = .ok (.iconst 0, 1) := by decide +kernel
theorem dX9_has_17 : decode cX9_has 17 = .ok (.ireturn, 1) := by decide +kernel
theorem dX9_numberOf_0 : decode cX9_numberOf 0 = .ok (.aload_n 0, 1) := by decide +kernel
theorem dX9_numberOf_1 : decode cX9_numberOf 1 = .ok (.getfield 9, 3) := by decide +kernel
theorem dX9_numberOf_4 : decode cX9_numberOf 4 = .ok (.aload_n 0, 1) := by decide +kernel
theorem dX9_numberOf_5 : decode cX9_numberOf 5 = .ok (.getfield 21, 3) := by decide +kernel
theorem dX9_numberOf_8 : decode cX9_numberOf 8 = .ok (.iload_n 1, 1) := by decide +kernel
theorem dX9_numberOf_9 : decode cX9_numberOf 9 = .ok (.invokestatic 25, 3) := by decide +kernel
theorem dX9_numberOf_12 : decode cX9_numberOf 12 = .ok (.ireturn, 1) := by decide +kernel
theorem dX9_add_0 : decode cX9_add 0 = .ok (.aload_n 0, 1) := by decide +kernel
theorem dX9_add_1 : decode cX9_add 1 = .ok (.getfield 21, 3) := by decide +kernel
theorem dX9_add_4 : decode cX9_add 4 = .ok (.bipush 6, 2) := by decide +kernel
theorem dX9_add_6 : decode cX9_add 6 = .ok (.if_icmp .lt 4, 3) := by decide +kernel
theorem dX9_add_9 : decode cX9_add 9 = .ok (.return_, 1) := by decide +kernel
theorem dX9_add_10 : decode cX9_add 10 = .ok (.aload_n 0, 1) := by decide +kernel
theorem dX9_add_11 : decode cX9_add 11 = .ok (.getfield 9, 3) := by decide +kernel
theorem dX9_add_14 : decode cX9_add 14 = .ok (.aload_n 0, 1) := by decide +kernel
theorem dX9_add_15 : decode cX9_add 15 = .ok (.getfield 21, 3) := by decide +kernel
theorem dX9_add_18 : decode cX9_add 18 = .ok (.iload_n 1, 1) := by decide +kernel
theorem dX9_add_19 : decode cX9_add 19 = .ok (.iastore, 1) := by decide +kernel
theorem dX9_add_20 : decode cX9_add 20 = .ok (.aload_n 0, 1) := by decide +kernel
theorem dX9_add_21 : decode cX9_add 21 = .ok (.getfield 15, 3) := by decide +kernel
theorem dX9_add_24 : decode cX9_add 24 = .ok (.aload_n 0, 1) := by decide +kernel
theorem dX9_add_25 : decode cX9_add 25 = .ok (.getfield 21, 3) := by decide +kernel
theorem dX9_add_28 : decode cX9_add 28 = .ok (.iload_n 2, 1) := by decide +kernel
theorem dX9_add_29 : decode cX9_add 29 = .ok (.iastore, 1) := by decide +kernel
theorem dX9_add_30 : decode cX9_add 30 = .ok (.aload_n 0, 1) := by decide +kernel
theorem dX9_add_31 : decode cX9_add 31 = .ok (.getfield 18, 3) := by decide +kernel
theorem dX9_add_34 : decode cX9_add 34 = .ok (.aload_n 0, 1) := by decide +kernel
theorem dX9_add_35 : decode cX9_add 35 = .ok (.getfield 21, 3) := by decide +kernel
theorem dX9_add_38 : decode cX9_add 38 = .ok (.iload_n 3, 1) := by decide +kernel
theorem dX9_add_39 : decode cX9_add 39 = .ok (.iastore, 1) := by decide +kernel
theorem dX9_add_40 : decode cX9_add 40 = .ok (.aload_n 0, 1) := by decide +kernel
theorem dX9_add_41 : decode cX9_add 41 = .ok (.dup, 1) := by decide +kernel
theorem dX9_add_42 : decode cX9_add 42 = .ok (.getfield 21, 3) := by decide +kernel
theorem dX9_add_45 : decode cX9_add 45 = .ok (.iconst 1, 1) := by decide +kernel
theorem dX9_add_46 : decode cX9_add 46 = .ok (.iadd, 1) := by decide +kernel
theorem dX9_add_47 : decode cX9_add 47 = .ok (.putfield 21, 3) := by decide +kernel
theorem dX9_add_50 : decode cX9_add 50 = .ok (.return_, 1) := by decide +kernel
theorem dX9_changeTrust_0 : decode cX9_changeTrust 0 = .ok (.aload_n 0, 1) := by decide +kernel
theorem dX9_changeTrust_1 : decode cX9_changeTrust 1 = .ok (.iload_n 1, 1) := by decide +kernel
theorem dX9_changeTrust_2 : decode cX9_changeTrust 2 = .ok (.invokevirtual 29, 3) := by decide +kernel
theorem dX9_changeTrust_5 : decode cX9_changeTrust 5 = .ok (.ifCond .ne 4, 3) := by decide +kernel
theorem dX9_changeTrust_8 : decode cX9_changeTrust 8 = .ok (.return_, 1) := by decide +kernel
theorem dX9_changeTrust_9 : decode cX9_changeTrust 9 = .ok (.aload_n 0, 1) := by decide +kernel
theorem dX9_changeTrust_10 : decode cX9_changeTrust 10 = .ok (.getfield 18, 3) := by decide +kernel
theorem dX9_changeTrust_13 : decode cX9_changeTrust 13 = .ok (.iload_n 1, 1) := by decide +kernel
theorem dX9_changeTrust_14 : decode cX9_changeTrust 14 = .ok (.iaload, 1) := by decide +kernel
theorem dX9_changeTrust_15 : decode cX9_changeTrust 15 = .ok (.iload_n 2, 1) := by decide +kernel
theorem dX9_changeTrust_16 : decode cX9_changeTrust 16 = .ok (.iadd, 1) := by decide +kernel
theorem dX9_changeTrust_17 : decode cX9_changeTrust 17 = .ok (.istore_n 3, 1) := by decide +kernel
theorem dX9_changeTrust_18 : decode cX9_changeTrust 18 = .ok (.aload_n 0, 1) := by decide +kernel
theorem dX9_changeTrust_19 : decode cX9_changeTrust 19 = .ok (.getfield 18, 3) := by decide +kernel
theorem dX9_changeTrust_22 : decode cX9_changeTrust 22 = .ok (.iload_n 1, 1) := by decide +kernel
theorem dX9_changeTrust_23 : decode cX9_changeTrust 23 = .ok (.iload_n 3, 1) := by decide +kernel
theorem dX9_changeTrust_24 : decode cX9_changeTrust 24 = .ok (.ifCond .ge 7, 3) := by decide +kernel
theorem dX9_changeTrust_27 : decode cX9_changeTrust 27 = .ok (.iconst 0, 1) := by decide +kernel
theorem dX9_changeTrust_28 : decode cX9_changeTrust 28 = .ok (.goto 15, 3) := by decide +kernel
theorem dX9_changeTrust_31 : decode cX9_changeTrust 31 = .ok (.iload_n 3, 1) := by decide +kernel
theorem dX9_changeTrust_32 : decode cX9_changeTrust 32 = .ok (.bipush 100, 2) := by decide +kernel
theorem dX9_changeTrust_34 : decode cX9_changeTrust 34 = .ok (.if_icmp .le 8, 3) := by decide +kernel
theorem dX9_changeTrust_37 : decode cX9_changeTrust 37 = .ok (.bipush 100, 2) := by decide +kernel
theorem dX9_changeTrust_39 : decode cX9_changeTrust 39 = .ok (.goto 4, 3) := by decide +kernel
theorem dX9_changeTrust_42 : decode cX9_changeTrust 42 = .ok (.iload_n 3, 1) := by decide +kernel
theorem dX9_changeTrust_43 : decode cX9_changeTrust 43 = .ok (.iastore, 1) := by decide +kernel
theorem dX9_changeTrust_44 : decode cX9_changeTrust 44 = .ok (.return_, 1) := by decide +kernel
theorem dX9_wish_0 : decode cX9_wish 0 = .ok (.aload_n 0, 1) := by decide +kernel
theorem dX9_wish_1 : decode cX9_wish 1 = .ok (.iload_n 1, 1) := by decide +kernel
theorem dX9_wish_2 : decode cX9_wish 2 = .ok (.invokevirtual 29, 3) := by decide +kernel
theorem dX9_wish_5 : decode cX9_wish 5 = .ok (.ifCond .eq 13, 3) := by decide +kernel
theorem dX9_wish_8 : decode cX9_wish 8 = .ok (.aload_n 0, 1) := by decide +kernel
theorem dX9_wish_9 : decode cX9_wish 9 = .ok (.getfield 15, 3) := by decide +kernel
theorem dX9_wish_12 : decode cX9_wish 12 = .ok (.iload_n 1, 1) := by decide +kernel
theorem dX9_wish_13 : decode cX9_wish 13 = .ok (.iaload, 1) := by decide +kernel
theorem dX9_wish_14 : decode cX9_wish 14 = .ok (.iload_n 2, 1) := by decide +kernel
theorem dX9_wish_15 : decode cX9_wish 15 = .ok (.if_icmp .gt 5, 3) := by decide +kernel
theorem dX9_wish_18 : decode cX9_wish 18 = .ok (.iconst 0, 1) := by decide +kernel
theorem dX9_wish_19 : decode cX9_wish 19 = .ok (.ireturn, 1) := by decide +kernel
theorem dX9_wish_20 : decode cX9_wish 20 = .ok (.aload_n 0, 1) := by decide +kernel
theorem dX9_wish_21 : decode cX9_wish 21 = .ok (.getfield 15, 3) := by decide +kernel
theorem dX9_wish_24 : decode cX9_wish 24 = .ok (.iload_n 1, 1) := by decide +kernel
theorem dX9_wish_25 : decode cX9_wish 25 = .ok (.iaload, 1) := by decide +kernel
theorem dX9_wish_26 : decode cX9_wish 26 = .ok (.iload_n 2, 1) := by decide +kernel
theorem dX9_wish_27 : decode cX9_wish 27 = .ok (.isub, 1) := by decide +kernel
theorem dX9_wish_28 : decode cX9_wish 28 = .ok (.aload_n 0, 1) := by decide +kernel
theorem dX9_wish_29 : decode cX9_wish 29 = .ok (.getfield 18, 3) := by decide +kernel
theorem dX9_wish_32 : decode cX9_wish 32 = .ok (.iload_n 1, 1) := by decide +kernel
theorem dX9_wish_33 : decode cX9_wish 33 = .ok (.iaload, 1) := by decide +kernel
theorem dX9_wish_34 : decode cX9_wish 34 = .ok (.imul, 1) := by decide +kernel
theorem dX9_wish_35 : decode cX9_wish 35 = .ok (.bipush 100, 2) := by decide +kernel
theorem dX9_wish_37 : decode cX9_wish 37 = .ok (.idiv, 1) := by decide +kernel
theorem dX9_wish_38 : decode cX9_wish 38 = .ok (.ireturn, 1) := by decide +kernel
theorem dX9_takeFrom_0 : decode cX9_takeFrom 0 = .ok (.aload_n 1, 1) := by decide +kernel
theorem dX9_takeFrom_1 : decode cX9_takeFrom 1 = .ok (.getfield 9, 3) := by decide +kernel
theorem dX9_takeFrom_4 : decode cX9_takeFrom 4 = .ok (.iconst 0, 1) := by decide +kernel
theorem dX9_takeFrom_5 : decode cX9_takeFrom 5 = .ok (.aload_n 0, 1) := by decide +kernel
theorem dX9_takeFrom_6 : decode cX9_takeFrom 6 = .ok (.getfield 9, 3) := by decide +kernel
theorem dX9_takeFrom_9 : decode cX9_takeFrom 9 = .ok (.iconst 0, 1) := by decide +kernel
theorem dX9_takeFrom_10 : decode cX9_takeFrom 10 = .ok (.bipush 6, 2) := by decide +kernel
theorem dX9_takeFrom_12 : decode cX9_takeFrom 12 = .ok (.invokestatic 33, 3) := by decide +kernel
theorem dX9_takeFrom_15 : decode cX9_takeFrom 15 = .ok (.aload_n 1, 1) := by decide +kernel
theorem dX9_takeFrom_16 : decode cX9_takeFrom 16 = .ok (.getfield 15, 3) := by decide +kernel
theorem dX9_takeFrom_19 : decode cX9_takeFrom 19 = .ok (.iconst 0, 1) := by decide +kernel
theorem dX9_takeFrom_20 : decode cX9_takeFrom 20 = .ok (.aload_n 0, 1) := by decide +kernel
theorem dX9_takeFrom_21 : decode cX9_takeFrom 21 = .ok (.getfield 15, 3) := by decide +kernel
theorem dX9_takeFrom_24 : decode cX9_takeFrom 24 = .ok (.iconst 0, 1) := by decide +kernel
theorem dX9_takeFrom_25 : decode cX9_takeFrom 25 = .ok (.bipush 6, 2) := by decide +kernel
theorem dX9_takeFrom_27 : decode cX9_takeFrom 27 = .ok (.invokestatic 33, 3) := by decide +kernel
theorem dX9_takeFrom_30 : decode cX9_takeFrom 30 = .ok (.aload_n 1, 1) := by decide +kernel
theorem dX9_takeFrom_31 : decode cX9_takeFrom 31 = .ok (.getfield 18, 3) := by decide +kernel
theorem dX9_takeFrom_34 : decode cX9_takeFrom 34 = .ok (.iconst 0, 1) := by decide +kernel
theorem dX9_takeFrom_35 : decode cX9_takeFrom 35 = .ok (.aload_n 0, 1) := by decide +kernel
theorem dX9_takeFrom_36 : decode cX9_takeFrom 36 = .ok (.getfield 18, 3) := by decide +kernel
theorem dX9_takeFrom_39 : decode cX9_takeFrom 39 = .ok (.iconst 0, 1) := by decide +kernel
theorem dX9_takeFrom_40 : decode cX9_takeFrom 40 = .ok (.bipush 6, 2) := by decide +kernel
theorem dX9_takeFrom_42 : decode cX9_takeFrom 42 = .ok (.invokestatic 33, 3) := by decide +kernel
theorem dX9_takeFrom_45 : decode cX9_takeFrom 45 = .ok (.aload_n 0, 1) := by decide +kernel
theorem dX9_takeFrom_46 : decode cX9_takeFrom 46 = .ok (.aload_n 1, 1) := by decide +kernel
theorem dX9_takeFrom_47 : decode cX9_takeFrom 47 = .ok (.getfield 21, 3) := by decide +kernel
theorem dX9_takeFrom_50 : decode cX9_takeFrom 50 = .ok (.putfield 21, 3) := by decide +kernel
theorem dX9_takeFrom_53 : decode cX9_takeFrom 53 = .ok (.return_, 1) := by decide +kernel
theorem dX10_init_0 : decode cX10_init 0 = .ok (.aload_n 0, 1) := by decide +kernel
theorem dX10_init_1 : decode cX10_init 1 = .ok (.invokespecial 1, 3) := by decide +kernel
theorem dX10_init_4 : decode cX10_init 4 = .ok (.aload_n 0, 1) := by decide +kernel
theorem dX10_init_5 : decode cX10_init 5 = .ok (.new 7, 3) := by decide +kernel
theorem dX10_init_8 : decode cX10_init 8 = .ok (.dup, 1) := by decide +kernel
theorem dX10_init_9 : decode cX10_init 9 = .ok (.invokespecial 9, 3) := by decide +kernel
theorem dX10_init_12 : decode cX10_init 12 = .ok (.putfield 10, 3) := by decide +kernel
theorem dX10_init_15 : decode cX10_init 15 = .ok (.aload_n 0, 1) := by decide +kernel
theorem dX10_init_16 : decode cX10_init 16 = .ok (.new 7, 3) := by decide +kernel
theorem dX10_init_19 : decode cX10_init 19 = .ok (.dup, 1) := by decide +kernel
theorem dX10_init_20 : decode cX10_init 20 = .ok (.invokespecial 9, 3) := by decide +kernel
theorem dX10_init_23 : decode cX10_init 23 = .ok (.putfield 16, 3) := by decide +kernel
theorem dX10_init_26 : decode cX10_init 26 = .ok (.aload_n 0, 1) := by decide +kernel
theorem dX10_init_27 : decode cX10_init 27 = .ok (.new 19, 3) := by decide +kernel
theorem dX10_init_30 : decode cX10_init 30 = .ok (.dup, 1) := by decide +kernel
theorem dX10_init_31 : decode cX10_init 31 = .ok (.invokespecial 21, 3) := by decide +kernel
theorem dX10_init_34 : decode cX10_init 34 = .ok (.putfield 22, 3) := by decide +kernel
theorem dX10_init_37 : decode cX10_init 37 = .ok (.aload_n 0, 1) := by decide +kernel
theorem dX10_init_38 : decode cX10_init 38 = .ok (.new 19, 3) := by decide +kernel
theorem dX10_init_41 : decode cX10_init 41 = .ok (.dup, 1) := by decide +kernel
theorem dX10_init_42 : decode cX10_init 42 = .ok (.invokespecial 21, 3) := by decide +kernel
theorem dX10_init_45 : decode cX10_init 45 = .ok (.putfield 26, 3) := by decide +kernel
theorem dX10_init_48 : decode cX10_init 48 = .ok (.aload_n 0, 1) := by decide +kernel
theorem dX10_init_49 : decode cX10_init 49 = .ok (.new 29, 3) := by decide +kernel
theorem dX10_init_52 : decode cX10_init 52 = .ok (.dup, 1) := by decide +kernel
theorem dX10_init_53 : decode cX10_init 53 = .ok (.invokespecial 31, 3) := by decide +kernel
theorem dX10_init_56 : decode cX10_init 56 = .ok (.putfield 32, 3) := by decide +kernel
theorem dX10_init_59 : decode cX10_init 59 = .ok (.aload_n 0, 1) := by decide +kernel
theorem dX10_init_60 : decode cX10_init 60 = .ok (.iconst 2, 1) := by decide +kernel
theorem dX10_init_61 : decode cX10_init 61 = .ok (.anewarray 19, 3) := by decide +kernel
theorem dX10_init_64 : decode cX10_init 64 = .ok (.dup, 1) := by decide +kernel
theorem dX10_init_65 : decode cX10_init 65 = .ok (.iconst 0, 1) := by decide +kernel
theorem dX10_init_66 : decode cX10_init 66 = .ok (.new 19, 3) := by decide +kernel
theorem dX10_init_69 : decode cX10_init 69 = .ok (.dup, 1) := by decide +kernel
theorem dX10_init_70 : decode cX10_init 70 = .ok (.invokespecial 21, 3) := by decide +kernel
theorem dX10_init_73 : decode cX10_init 73 = .ok (.aastore, 1) := by decide +kernel
theorem dX10_init_74 : decode cX10_init 74 = .ok (.dup, 1) := by decide +kernel
theorem dX10_init_75 : decode cX10_init 75 = .ok (.iconst 1, 1) := by decide +kernel
theorem dX10_init_76 : decode cX10_init 76 = .ok (.new 19, 3) := by decide +kernel
theorem dX10_init_79 : decode cX10_init 79 = .ok (.dup, 1) := by decide +kernel
theorem dX10_init_80 : decode cX10_init 80 = .ok (.invokespecial 21, 3) := by decide +kernel
theorem dX10_init_83 : decode cX10_init 83 = .ok (.aastore, 1) := by decide +kernel
theorem dX10_init_84 : decode cX10_init 84 = .ok (.putfield 36, 3) := by decide +kernel
theorem dX10_init_87 : decode cX10_init 87 = .ok (.aload_n 0, 1) := by decide +kernel
theorem dX10_init_88 : decode cX10_init 88 = .ok (.iconst 2, 1) := by decide +kernel
theorem dX10_init_89 : decode cX10_init 89 = .ok (.newarray .boolean, 2) := by decide +kernel
theorem dX10_init_91 : decode cX10_init 91 = .ok (.putfield 40, 3) := by decide +kernel
theorem dX10_init_94 : decode cX10_init 94 = .ok (.aload_n 0, 1) := by decide +kernel
theorem dX10_init_95 : decode cX10_init 95 = .ok (.iconst 0, 1) := by decide +kernel
theorem dX10_init_96 : decode cX10_init 96 = .ok (.putfield 44, 3) := by decide +kernel
theorem dX10_init_99 : decode cX10_init 99 = .ok (.aload_n 0, 1) := by decide +kernel
theorem dX10_init_100 : decode cX10_init 100 = .ok (.iconst (-1), 1) := by decide +kernel
theorem dX10_init_101 : decode cX10_init 101 = .ok (.putfield 48, 3) := by decide +kernel
theorem dX10_init_104 : decode cX10_init 104 = .ok (.new 7, 3) := by decide +kernel
theorem dX10_init_107 : decode cX10_init 107 = .ok (.dup, 1) := by decide +kernel
theorem dX10_init_108 : decode cX10_init 108 = .ok (.invokespecial 9, 3) := by decide +kernel
theorem dX10_init_111 : decode cX10_init 111 = .ok (.astore_n 1, 1) := by decide +kernel
theorem dX10_init_112 : decode cX10_init 112 = .ok (.aload_n 1, 1) := by decide +kernel
theorem dX10_init_113 : decode cX10_init 113 = .ok (.ldc 51, 2) := by decide +kernel
theorem dX10_init_115 : decode cX10_init 115 = .ok (.invokevirtual 53, 3) := by decide +kernel
theorem dX10_init_118 : decode cX10_init 118 = .ok (.new 19, 3) := by decide +kernel
theorem dX10_init_121 : decode cX10_init 121 = .ok (.dup, 1) := by decide +kernel
theorem dX10_init_122 : decode cX10_init 122 = .ok (.invokespecial 21, 3) := by decide +kernel
theorem dX10_init_125 : decode cX10_init 125 = .ok (.astore_n 2, 1) := by decide +kernel
theorem dX10_init_126 : decode cX10_init 126 = .ok (.new 57, 3) := by decide +kernel
theorem dX10_init_129 : decode cX10_init 129 = .ok (.dup, 1) := by decide +kernel
theorem dX10_init_130 : decode cX10_init 130 = .ok (.aload_n 1, 1) := by decide +kernel
theorem dX10_init_131 : decode cX10_init 131 = .ok (.aload_n 2, 1) := by decide +kernel
theorem dX10_init_132 : decode cX10_init 132 = .ok (.invokespecial 59, 3) := by decide +kernel
theorem dX10_init_135 : decode cX10_init 135 = .ok (.invokevirtual 62, 3) := by decide +kernel
theorem dX10_init_138 : decode cX10_init 138 = .ok (.pop, 1) := by decide +kernel
theorem dX10_init_139 : decode cX10_init 139 = .ok (.aload_n 0, 1) := by decide +kernel
theorem dX10_init_140 : decode cX10_init 140 = .ok (.getfield 22, 3) := by decide +kernel
theorem dX10_init_143 : decode cX10_init 143 = .ok (.aload_n 2, 1) := by decide +kernel
theorem dX10_init_144 : decode cX10_init 144 = .ok (.invokevirtual 66, 3) := by decide +kernel
theorem dX10_init_147 : decode cX10_init 147 = .ok (.return_, 1) := by decide +kernel
theorem dX10_appendInput_0 : decode cX10_appendInput 0 = .ok (.aload_n 0, 1) := by decide +kernel
theorem dX10_appendInput_1 : decode cX10_appendInput 1 = .ok (.getfield 10, 3) := by decide +kernel
theorem dX10_appendInput_4 : decode cX10_appendInput 4 = .ok (.bipush 20, 2) := by decide +kernel
theorem dX10_appendInput_6 : decode cX10_appendInput 6 = .ok (.invokevirtual 70, 3) := by decide +kernel
theorem dX10_appendInput_9 : decode cX10_appendInput 9 = .ok (.ifCond .ne 11, 3) := by decide +kernel
theorem dX10_appendInput_12 : decode cX10_appendInput 12 = .ok (.new 74, 3) := by decide +kernel
theorem dX10_appendInput_15 : decode cX10_appendInput 15 = .ok (.dup, 1) := by decide +kernel
theorem dX10_appendInput_16 : decode cX10_appendInput 16 = .ok (.invokespecial 76, 3) := by decide +kernel
theorem dX10_appendInput_19 : decode cX10_appendInput 19 = .ok (.athrow, 1) := by decide +kernel
theorem dX10_appendInput_20 : decode cX10_appendInput 20 = .ok (.aload_n 0, 1) := by decide +kernel
theorem dX10_appendInput_21 : decode cX10_appendInput 21 = .ok (.getfield 10, 3) := by decide +kernel
theorem dX10_appendInput_24 : decode cX10_appendInput 24 = .ok (.iload_n 1, 1) := by decide +kernel
theorem dX10_appendInput_25 : decode cX10_appendInput 25 = .ok (.invokevirtual 77, 3) := by decide +kernel
theorem dX10_appendInput_28 : decode cX10_appendInput 28 = .ok (.aload_n 0, 1) := by decide +kernel
theorem dX10_appendInput_29 : decode cX10_appendInput 29 = .ok (.getfield 10, 3) := by decide +kernel
theorem dX10_appendInput_32 : decode cX10_appendInput 32 = .ok (.iload_n 2, 1) := by decide +kernel
theorem dX10_appendInput_33 : decode cX10_appendInput 33 = .ok (.invokevirtual 77, 3) := by decide +kernel
theorem dX10_appendInput_36 : decode cX10_appendInput 36 = .ok (.aload_n 0, 1) := by decide +kernel
theorem dX10_appendInput_37 : decode cX10_appendInput 37 = .ok (.getfield 10, 3) := by decide +kernel
theorem dX10_appendInput_40 : decode cX10_appendInput 40 = .ok (.iload_n 3, 1) := by decide +kernel
theorem dX10_appendInput_41 : decode cX10_appendInput 41 = .ok (.invokevirtual 77, 3) := by decide +kernel
theorem dX10_appendInput_44 : decode cX10_appendInput 44 = .ok (.aload_n 0, 1) := by decide +kernel
theorem dX10_appendInput_45 : decode cX10_appendInput 45 = .ok (.getfield 10, 3) := by decide +kernel
theorem dX10_appendInput_48 : decode cX10_appendInput 48 = .ok (.iload 4, 2) := by decide +kernel
theorem dX10_appendInput_50 : decode cX10_appendInput 50 = .ok (.invokevirtual 77, 3) := by decide +kernel
theorem dX10_appendInput_53 : decode cX10_appendInput 53 = .ok (.aload_n 0, 1) := by decide +kernel
theorem dX10_appendInput_54 : decode cX10_appendInput 54 = .ok (.getfield 10, 3) := by decide +kernel
theorem dX10_appendInput_57 : decode cX10_appendInput 57 = .ok (.iload 5, 2) := by decide +kernel
theorem dX10_appendInput_59 : decode cX10_appendInput 59 = .ok (.invokevirtual 77, 3) := by decide +kernel
theorem dX10_appendInput_62 : decode cX10_appendInput 62 = .ok (.aload_n 0, 1) := by decide +kernel
theorem dX10_appendInput_63 : decode cX10_appendInput 63 = .ok (.getfield 10, 3) := by decide +kernel
theorem dX10_appendInput_66 : decode cX10_appendInput 66 = .ok (.getfield 81, 3) := by decide +kernel
theorem dX10_appendInput_69 : decode cX10_appendInput 69 = .ok (.ireturn, 1) := by decide +kernel
theorem dX10_truncateInput_0 : decode cX10_truncateInput 0 = .ok (.aload_n 0, 1) := by decide +kernel
theorem dX10_truncateInput_1 : decode cX10_truncateInput 1 = .ok (.iload_n 1, 1) := by decide +kernel
theorem dX10_truncateInput_2 : decode cX10_truncateInput 2 = .ok (.iconst 0, 1) := by decide +kernel
theorem dX10_truncateInput_3 : decode cX10_truncateInput 3 = .ok (.aload_n 0, 1) := by decide +kernel
theorem dX10_truncateInput_4 : decode cX10_truncateInput 4 = .ok (.getfield 10, 3) := by decide +kernel
theorem dX10_truncateInput_7 : decode cX10_truncateInput 7 = .ok (.getfield 81, 3) := by decide +kernel
theorem dX10_truncateInput_10 : decode cX10_truncateInput 10 = .ok (.invokevirtual 84, 3) := by decide +kernel
theorem dX10_truncateInput_13 : decode cX10_truncateInput 13 = .ok (.aload_n 0, 1) := by decide +kernel
theorem dX10_truncateInput_14 : decode cX10_truncateInput 14 = .ok (.getfield 10, 3) := by decide +kernel
theorem dX10_truncateInput_17 : decode cX10_truncateInput 17 = .ok (.iload_n 1, 1) := by decide +kernel
theorem dX10_truncateInput_18 : decode cX10_truncateInput 18 = .ok (.putfield 81, 3) := by decide +kernel
theorem dX10_truncateInput_21 : decode cX10_truncateInput 21 = .ok (.iload_n 1, 1) := by decide +kernel
theorem dX10_truncateInput_22 : decode cX10_truncateInput 22 = .ok (.ireturn, 1) := by decide +kernel
theorem dX10_load_0 : decode cX10_load 0 = .ok (.aload_n 0, 1) := by decide +kernel
theorem dX10_load_1 : decode cX10_load 1 = .ok (.getfield 26, 3) := by decide +kernel
theorem dX10_load_4 : decode cX10_load 4 = .ok (.invokevirtual 88, 3) := by decide +kernel
theorem dX10_load_7 : decode cX10_load 7 = .ok (.new 57, 3) := by decide +kernel
theorem dX10_load_10 : decode cX10_load 10 = .ok (.dup, 1) := by decide +kernel
theorem dX10_load_11 : decode cX10_load 11 = .ok (.aload_n 0, 1) := by decide +kernel
theorem dX10_load_12 : decode cX10_load 12 = .ok (.getfield 10, 3) := by decide +kernel
theorem dX10_load_15 : decode cX10_load 15 = .ok (.aload_n 0, 1) := by decide +kernel
theorem dX10_load_16 : decode cX10_load 16 = .ok (.getfield 26, 3) := by decide +kernel
theorem dX10_load_19 : decode cX10_load 19 = .ok (.invokespecial 59, 3) := by decide +kernel
theorem dX10_load_22 : decode cX10_load 22 = .ok (.astore_n 1, 1) := by decide +kernel
theorem dX10_load_23 : decode cX10_load 23 = .ok (.aload_n 1, 1) := by decide +kernel
theorem dX10_load_24 : decode cX10_load 24 = .ok (.invokevirtual 62, 3) := by decide +kernel
theorem dX10_load_27 : decode cX10_load 27 = .ok (.istore_n 2, 1) := by decide +kernel
theorem dX10_load_28 : decode cX10_load 28 = .ok (.aload_n 0, 1) := by decide +kernel
theorem dX10_load_29 : decode cX10_load 29 = .ok (.getfield 10, 3) := by decide +kernel
theorem dX10_load_32 : decode cX10_load 32 = .ok (.iconst 0, 1) := by decide +kernel
theorem dX10_load_33 : decode cX10_load 33 = .ok (.putfield 81, 3) := by decide +kernel
theorem dX10_load_36 : decode cX10_load 36 = .ok (.aload_n 0, 1) := by decide +kernel
theorem dX10_load_37 : decode cX10_load 37 = .ok (.aload_n 1, 1) := by decide +kernel
theorem dX10_load_38 : decode cX10_load 38 = .ok (.getfield 91, 3) := by decide +kernel
theorem dX10_load_41 : decode cX10_load 41 = .ok (.putfield 44, 3) := by decide +kernel
theorem dX10_load_44 : decode cX10_load 44 = .ok (.aload_n 0, 1) := by decide +kernel
theorem dX10_load_45 : decode cX10_load 45 = .ok (.aload_n 1, 1) := by decide +kernel
theorem dX10_load_46 : decode cX10_load 46 = .ok (.getfield 92, 3) := by decide +kernel
theorem dX10_load_49 : decode cX10_load 49 = .ok (.putfield 48, 3) := by decide +kernel
theorem dX10_load_52 : decode cX10_load 52 = .ok (.iload_n 2, 1) := by decide +kernel
theorem dX10_load_53 : decode cX10_load 53 = .ok (.ifCond .ne 11, 3) := by decide +kernel
theorem dX10_load_56 : decode cX10_load 56 = .ok (.new 93, 3) := by decide +kernel
theorem dX10_load_59 : decode cX10_load 59 = .ok (.dup, 1) := by decide +kernel
theorem dX10_load_60 : decode cX10_load 60 = .ok (.invokespecial 95, 3) := by decide +kernel
theorem dX10_load_63 : decode cX10_load 63 = .ok (.athrow, 1) := by decide +kernel
theorem dX10_load_64 : decode cX10_load 64 = .ok (.aload_n 0, 1) := by decide +kernel
theorem dX10_load_65 : decode cX10_load 65 = .ok (.getfield 32, 3) := by decide +kernel
theorem dX10_load_68 : decode cX10_load 68 = .ok (.aload_n 0, 1) := by decide +kernel
theorem dX10_load_69 : decode cX10_load 69 = .ok (.getfield 22, 3) := by decide +kernel
theorem dX10_load_72 : decode cX10_load 72 = .ok (.invokevirtual 96, 3) := by decide +kernel
theorem dX10_load_75 : decode cX10_load 75 = .ok (.aload_n 0, 1) := by decide +kernel
theorem dX10_load_76 : decode cX10_load 76 = .ok (.getfield 22, 3) := by decide +kernel
theorem dX10_load_79 : decode cX10_load 79 = .ok (.aload_n 0, 1) := by decide +kernel
theorem dX10_load_80 : decode cX10_load 80 = .ok (.getfield 26, 3) := by decide +kernel
theorem dX10_load_83 : decode cX10_load 83 = .ok (.invokevirtual 66, 3) := by decide +kernel
theorem dX10_load_86 : decode cX10_load 86 = .ok (.aload_n 0, 1) := by decide +kernel
theorem dX10_load_87 : decode cX10_load 87 = .ok (.getfield 22, 3) := by decide +kernel
theorem dX10_load_90 : decode cX10_load 90 = .ok (.getfield 99, 3) := by decide +kernel
theorem dX10_load_93 : decode cX10_load 93 = .ok (.getfield 103, 3) := by decide +kernel
theorem dX10_load_96 : decode cX10_load 96 = .ok (.ireturn, 1) := by decide +kernel
theorem dX10_errorCode_0 : decode cX10_errorCode 0 = .ok (.aload_n 0, 1) := by decide +kernel
theorem dX10_errorCode_1 : decode cX10_errorCode 1 = .ok (.getfield 44, 3) := by decide +kernel
theorem dX10_errorCode_4 : decode cX10_errorCode 4 = .ok (.ireturn, 1) := by decide +kernel
theorem dX10_day_0 : decode cX10_day 0 = .ok (.aload_n 0, 1) := by decide +kernel
theorem dX10_day_1 : decode cX10_day 1 = .ok (.getfield 22, 3) := by decide +kernel
theorem dX10_day_4 : decode cX10_day 4 = .ok (.getfield 108, 3) := by decide +kernel
theorem dX10_day_7 : decode cX10_day 7 = .ok (.ireturn, 1) := by decide +kernel
theorem dX10_seed_0 : decode cX10_seed 0 = .ok (.aload_n 0, 1) := by decide +kernel
theorem dX10_seed_1 : decode cX10_seed 1 = .ok (.getfield 22, 3) := by decide +kernel
theorem dX10_seed_4 : decode cX10_seed 4 = .ok (.getfield 111, 3) := by decide +kernel
theorem dX10_seed_7 : decode cX10_seed 7 = .ok (.getfield 115, 3) := by decide +kernel
theorem dX10_seed_10 : decode cX10_seed 10 = .ok (.ireturn, 1) := by decide +kernel
theorem dX10_coins_0 : decode cX10_coins 0 = .ok (.aload_n 0, 1) := by decide +kernel
theorem dX10_coins_1 : decode cX10_coins 1 = .ok (.getfield 22, 3) := by decide +kernel
theorem dX10_coins_4 : decode cX10_coins 4 = .ok (.getfield 120, 3) := by decide +kernel
theorem dX10_coins_7 : decode cX10_coins 7 = .ok (.ireturn, 1) := by decide +kernel
theorem dX10_fairCount_0 : decode cX10_fairCount 0 = .ok (.aload_n 0, 1) := by decide +kernel
theorem dX10_fairCount_1 : decode cX10_fairCount 1 = .ok (.getfield 22, 3) := by decide +kernel
theorem dX10_fairCount_4 : decode cX10_fairCount 4 = .ok (.getfield 123, 3) := by decide +kernel
theorem dX10_fairCount_7 : decode cX10_fairCount 7 = .ok (.getfield 127, 3) := by decide +kernel
theorem dX10_fairCount_10 : decode cX10_fairCount 10 = .ok (.ireturn, 1) := by decide +kernel
theorem dX10_peopleOf_0 : decode cX10_peopleOf 0 = .ok (.aload_n 0, 1) := by decide +kernel
theorem dX10_peopleOf_1 : decode cX10_peopleOf 1 = .ok (.iload_n 1, 1) := by decide +kernel
theorem dX10_peopleOf_2 : decode cX10_peopleOf 2 = .ok (.invokevirtual 139, 3) := by decide +kernel
theorem dX10_peopleOf_5 : decode cX10_peopleOf 5 = .ok (.aload_n 0, 1) := by decide +kernel
theorem dX10_peopleOf_6 : decode cX10_peopleOf 6 = .ok (.getfield 22, 3) := by decide +kernel
theorem dX10_peopleOf_9 : decode cX10_peopleOf 9 = .ok (.getfield 99, 3) := by decide +kernel
theorem dX10_peopleOf_12 : decode cX10_peopleOf 12 = .ok (.getfield 142, 3) := by decide +kernel
theorem dX10_peopleOf_15 : decode cX10_peopleOf 15 = .ok (.iload_n 1, 1) := by decide +kernel
theorem dX10_peopleOf_16 : decode cX10_peopleOf 16 = .ok (.iaload, 1) := by decide +kernel
theorem dX10_peopleOf_17 : decode cX10_peopleOf 17 = .ok (.ireturn, 1) := by decide +kernel
theorem dX10_trustOf_0 : decode cX10_trustOf 0 = .ok (.aload_n 0, 1) := by decide +kernel
theorem dX10_trustOf_1 : decode cX10_trustOf 1 = .ok (.iload_n 1, 1) := by decide +kernel
theorem dX10_trustOf_2 : decode cX10_trustOf 2 = .ok (.invokevirtual 139, 3) := by decide +kernel
theorem dX10_trustOf_5 : decode cX10_trustOf 5 = .ok (.aload_n 0, 1) := by decide +kernel
theorem dX10_trustOf_6 : decode cX10_trustOf 6 = .ok (.getfield 22, 3) := by decide +kernel
theorem dX10_trustOf_9 : decode cX10_trustOf 9 = .ok (.getfield 99, 3) := by decide +kernel
theorem dX10_trustOf_12 : decode cX10_trustOf 12 = .ok (.getfield 146, 3) := by decide +kernel
theorem dX10_trustOf_15 : decode cX10_trustOf 15 = .ok (.iload_n 1, 1) := by decide +kernel
theorem dX10_trustOf_16 : decode cX10_trustOf 16 = .ok (.iaload, 1) := by decide +kernel
theorem dX10_trustOf_17 : decode cX10_trustOf 17 = .ok (.ireturn, 1) := by decide +kernel
theorem dX10_oddsOf_0 : decode cX10_oddsOf 0 = .ok (.aload_n 0, 1) := by decide +kernel
theorem dX10_oddsOf_1 : decode cX10_oddsOf 1 = .ok (.iload_n 1, 1) := by decide +kernel
theorem dX10_oddsOf_2 : decode cX10_oddsOf 2 = .ok (.iconst 0, 1) := by decide +kernel
theorem dX10_oddsOf_3 : decode cX10_oddsOf 3 = .ok (.iconst 2, 1) := by decide +kernel
theorem dX10_oddsOf_4 : decode cX10_oddsOf 4 = .ok (.invokevirtual 84, 3) := by decide +kernel
theorem dX10_oddsOf_7 : decode cX10_oddsOf 7 = .ok (.aload_n 0, 1) := by decide +kernel
theorem dX10_oddsOf_8 : decode cX10_oddsOf 8 = .ok (.getfield 22, 3) := by decide +kernel
theorem dX10_oddsOf_11 : decode cX10_oddsOf 11 = .ok (.getfield 111, 3) := by decide +kernel
theorem dX10_oddsOf_14 : decode cX10_oddsOf 14 = .ok (.getfield 175, 3) := by decide +kernel
theorem dX10_oddsOf_17 : decode cX10_oddsOf 17 = .ok (.iload_n 1, 1) := by decide +kernel
theorem dX10_oddsOf_18 : decode cX10_oddsOf 18 = .ok (.iaload, 1) := by decide +kernel
theorem dX10_oddsOf_19 : decode cX10_oddsOf 19 = .ok (.ireturn, 1) := by decide +kernel
theorem dX10_drawnThisYear_0 : decode cX10_drawnThisYear 0 = .ok (.aload_n 0, 1) := by decide +kernel
theorem dX10_drawnThisYear_1 : decode cX10_drawnThisYear 1 = .ok (.iload_n 1, 1) := by decide +kernel
theorem dX10_drawnThisYear_2 : decode cX10_drawnThisYear 2 = .ok (.iconst 0, 1) := by decide +kernel
theorem dX10_drawnThisYear_3 : decode cX10_drawnThisYear 3 = .ok (.iconst 2, 1) := by decide +kernel
theorem dX10_drawnThisYear_4 : decode cX10_drawnThisYear 4 = .ok (.invokevirtual 84, 3) := by decide +kernel
theorem dX10_drawnThisYear_7 : decode cX10_drawnThisYear 7 = .ok (.aload_n 0, 1) := by decide +kernel
theorem dX10_drawnThisYear_8 : decode cX10_drawnThisYear 8 = .ok (.getfield 22, 3) := by decide +kernel
theorem dX10_drawnThisYear_11 : decode cX10_drawnThisYear 11 = .ok (.getfield 111, 3) := by decide +kernel
theorem dX10_drawnThisYear_14 : decode cX10_drawnThisYear 14 = .ok (.getfield 182, 3) := by decide +kernel
theorem dX10_drawnThisYear_17 : decode cX10_drawnThisYear 17 = .ok (.iload_n 1, 1) := by decide +kernel
theorem dX10_drawnThisYear_18 : decode cX10_drawnThisYear 18 = .ok (.iaload, 1) := by decide +kernel
theorem dX10_drawnThisYear_19 : decode cX10_drawnThisYear 19 = .ok (.ireturn, 1) := by decide +kernel
theorem dX10_forecastCount_0 : decode cX10_forecastCount 0 = .ok (.aload_n 0, 1) := by decide +kernel
theorem dX10_forecastCount_1 : decode cX10_forecastCount 1 = .ok (.getfield 22, 3) := by decide +kernel
theorem dX10_forecastCount_4 : decode cX10_forecastCount 4 = .ok (.getfield 149, 3) := by decide +kernel
theorem dX10_forecastCount_7 : decode cX10_forecastCount 7 = .ok (.getfield 185, 3) := by decide +kernel
theorem dX10_forecastCount_10 : decode cX10_forecastCount 10 = .ok (.ireturn, 1) := by decide +kernel
theorem dX10_weatherOf_0 : decode cX10_weatherOf 0 = .ok (.aload_n 0, 1) := by decide +kernel
theorem dX10_weatherOf_1 : decode cX10_weatherOf 1 = .ok (.getfield 22, 3) := by decide +kernel
theorem dX10_weatherOf_4 : decode cX10_weatherOf 4 = .ok (.getfield 149, 3) := by decide +kernel
theorem dX10_weatherOf_7 : decode cX10_weatherOf 7 = .ok (.getfield 189, 3) := by decide +kernel
theorem dX10_weatherOf_10 : decode cX10_weatherOf 10 = .ok (.aload_n 0, 1) := by decide +kernel
theorem dX10_weatherOf_11 : decode cX10_weatherOf 11 = .ok (.iload_n 1, 1) := by decide +kernel
theorem dX10_weatherOf_12 : decode cX10_weatherOf 12 = .ok (.iload_n 2, 1) := by decide +kernel
theorem dX10_weatherOf_13 : decode cX10_weatherOf 13 = .ok (.invokevirtual 192, 3) := by decide +kernel
theorem dX10_weatherOf_16 : decode cX10_weatherOf 16 = .ok (.iaload, 1) := by decide +kernel
theorem dX10_weatherOf_17 : decode cX10_weatherOf 17 = .ok (.ireturn, 1) := by decide +kernel
theorem dX10_soldOf_0 : decode cX10_soldOf 0 = .ok (.aload_n 0, 1) := by decide +kernel
theorem dX10_soldOf_1 : decode cX10_soldOf 1 = .ok (.getfield 22, 3) := by decide +kernel
theorem dX10_soldOf_4 : decode cX10_soldOf 4 = .ok (.getfield 149, 3) := by decide +kernel
theorem dX10_soldOf_7 : decode cX10_soldOf 7 = .ok (.getfield 195, 3) := by decide +kernel
theorem dX10_soldOf_10 : decode cX10_soldOf 10 = .ok (.aload_n 0, 1) := by decide +kernel
theorem dX10_soldOf_11 : decode cX10_soldOf 11 = .ok (.iload_n 1, 1) := by decide +kernel
theorem dX10_soldOf_12 : decode cX10_soldOf 12 = .ok (.iload_n 2, 1) := by decide +kernel
theorem dX10_soldOf_13 : decode cX10_soldOf 13 = .ok (.invokevirtual 192, 3) := by decide +kernel
theorem dX10_soldOf_16 : decode cX10_soldOf 16 = .ok (.iaload, 1) := by decide +kernel
theorem dX10_soldOf_17 : decode cX10_soldOf 17 = .ok (.ireturn, 1) := by decide +kernel
theorem dX10_paidOf_0 : decode cX10_paidOf 0 = .ok (.aload_n 0, 1) := by decide +kernel
theorem dX10_paidOf_1 : decode cX10_paidOf 1 = .ok (.getfield 22, 3) := by decide +kernel
theorem dX10_paidOf_4 : decode cX10_paidOf 4 = .ok (.getfield 149, 3) := by decide +kernel
theorem dX10_paidOf_7 : decode cX10_paidOf 7 = .ok (.getfield 198, 3) := by decide +kernel
theorem dX10_paidOf_10 : decode cX10_paidOf 10 = .ok (.aload_n 0, 1) := by decide +kernel
theorem dX10_paidOf_11 : decode cX10_paidOf 11 = .ok (.iload_n 1, 1) := by decide +kernel
theorem dX10_paidOf_12 : decode cX10_paidOf 12 = .ok (.iload_n 2, 1) := by decide +kernel
theorem dX10_paidOf_13 : decode cX10_paidOf 13 = .ok (.invokevirtual 192, 3) := by decide +kernel
theorem dX10_paidOf_16 : decode cX10_paidOf 16 = .ok (.iaload, 1) := by decide +kernel
theorem dX10_paidOf_17 : decode cX10_paidOf 17 = .ok (.ireturn, 1) := by decide +kernel
theorem dX10_pageOf_0 : decode cX10_pageOf 0 = .ok (.aload_n 0, 1) := by decide +kernel
theorem dX10_pageOf_1 : decode cX10_pageOf 1 = .ok (.iload_n 1, 1) := by decide +kernel
theorem dX10_pageOf_2 : decode cX10_pageOf 2 = .ok (.iload_n 2, 1) := by decide +kernel
theorem dX10_pageOf_3 : decode cX10_pageOf 3 = .ok (.invokevirtual 192, 3) := by decide +kernel
theorem dX10_pageOf_6 : decode cX10_pageOf 6 = .ok (.iconst 4, 1) := by decide +kernel
theorem dX10_pageOf_7 : decode cX10_pageOf 7 = .ok (.idiv, 1) := by decide +kernel
theorem dX10_pageOf_8 : decode cX10_pageOf 8 = .ok (.ireturn, 1) := by decide +kernel
theorem dX10_forecastAt_0 : decode cX10_forecastAt 0 = .ok (.iload_n 1, 1) := by decide +kernel
theorem dX10_forecastAt_1 : decode cX10_forecastAt 1 = .ok (.iconst 0, 1) := by decide +kernel
theorem dX10_forecastAt_2 : decode cX10_forecastAt 2 = .ok (.aload_n 0, 1) := by decide +kernel
theorem dX10_forecastAt_3 : decode cX10_forecastAt 3 = .ok (.getfield 22, 3) := by decide +kernel
theorem dX10_forecastAt_6 : decode cX10_forecastAt 6 = .ok (.getfield 149, 3) := by decide +kernel
theorem dX10_forecastAt_9 : decode cX10_forecastAt 9 = .ok (.getfield 185, 3) := by decide +kernel
theorem dX10_forecastAt_12 : decode cX10_forecastAt 12 = .ok (.iconst 1, 1) := by decide +kernel
theorem dX10_forecastAt_13 : decode cX10_forecastAt 13 = .ok (.isub, 1) := by decide +kernel
theorem dX10_forecastAt_14 : decode cX10_forecastAt 14 = .ok (.invokestatic 201, 3) := by decide +kernel
theorem dX10_forecastAt_17 : decode cX10_forecastAt 17 = .ok (.ifCond .ne 11, 3) := by decide +kernel
theorem dX10_forecastAt_20 : decode cX10_forecastAt 20 = .ok (.new 205, 3) := by decide +kernel
theorem dX10_forecastAt_23 : decode cX10_forecastAt 23 = .ok (.dup, 1) := by decide +kernel
theorem dX10_forecastAt_24 : decode cX10_forecastAt 24 = .ok (.invokespecial 207, 3) := by decide +kernel
theorem dX10_forecastAt_27 : decode cX10_forecastAt 27 = .ok (.athrow, 1) := by decide +kernel
theorem dX10_forecastAt_28 : decode cX10_forecastAt 28 = .ok (.aload_n 0, 1) := by decide +kernel
theorem dX10_forecastAt_29 : decode cX10_forecastAt 29 = .ok (.getfield 22, 3) := by decide +kernel
theorem dX10_forecastAt_32 : decode cX10_forecastAt 32 = .ok (.getfield 149, 3) := by decide +kernel
theorem dX10_forecastAt_35 : decode cX10_forecastAt 35 = .ok (.iload_n 1, 1) := by decide +kernel
theorem dX10_forecastAt_36 : decode cX10_forecastAt 36 = .ok (.invokevirtual 208, 3) := by decide +kernel
theorem dX10_forecastAt_39 : decode cX10_forecastAt 39 = .ok (.ireturn, 1) := by decide +kernel
theorem dX10_pageCount_0 : decode cX10_pageCount 0 = .ok (.aload_n 0, 1) := by decide +kernel
theorem dX10_pageCount_1 : decode cX10_pageCount 1 = .ok (.getfield 22, 3) := by decide +kernel
theorem dX10_pageCount_4 : decode cX10_pageCount 4 = .ok (.getfield 149, 3) := by decide +kernel
theorem dX10_pageCount_7 : decode cX10_pageCount 7 = .ok (.invokevirtual 211, 3) := by decide +kernel
theorem dX10_pageCount_10 : decode cX10_pageCount 10 = .ok (.ireturn, 1) := by decide +kernel
theorem dX10_regretCount_0 : decode cX10_regretCount 0 = .ok (.aload_n 0, 1) := by decide +kernel
theorem dX10_regretCount_1 : decode cX10_regretCount 1 = .ok (.getfield 22, 3) := by decide +kernel
theorem dX10_regretCount_4 : decode cX10_regretCount 4 = .ok (.getfield 236, 3) := by decide +kernel
theorem dX10_regretCount_7 : decode cX10_regretCount 7 = .ok (.getfield 240, 3) := by decide +kernel
theorem dX10_regretCount_10 : decode cX10_regretCount 10 = .ok (.ireturn, 1) := by decide +kernel
theorem dX10_regretAt_0 : decode cX10_regretAt 0 = .ok (.iload_n 1, 1) := by decide +kernel
theorem dX10_regretAt_1 : decode cX10_regretAt 1 = .ok (.iconst 0, 1) := by decide +kernel
theorem dX10_regretAt_2 : decode cX10_regretAt 2 = .ok (.aload_n 0, 1) := by decide +kernel
theorem dX10_regretAt_3 : decode cX10_regretAt 3 = .ok (.getfield 22, 3) := by decide +kernel
theorem dX10_regretAt_6 : decode cX10_regretAt 6 = .ok (.getfield 236, 3) := by decide +kernel
theorem dX10_regretAt_9 : decode cX10_regretAt 9 = .ok (.getfield 240, 3) := by decide +kernel
theorem dX10_regretAt_12 : decode cX10_regretAt 12 = .ok (.iconst 1, 1) := by decide +kernel
theorem dX10_regretAt_13 : decode cX10_regretAt 13 = .ok (.isub, 1) := by decide +kernel
theorem dX10_regretAt_14 : decode cX10_regretAt 14 = .ok (.invokestatic 201, 3) := by decide +kernel
theorem dX10_regretAt_17 : decode cX10_regretAt 17 = .ok (.ifCond .ne 11, 3) := by decide +kernel
theorem dX10_regretAt_20 : decode cX10_regretAt 20 = .ok (.new 243, 3) := by decide +kernel
theorem dX10_regretAt_23 : decode cX10_regretAt 23 = .ok (.dup, 1) := by decide +kernel
theorem dX10_regretAt_24 : decode cX10_regretAt 24 = .ok (.invokespecial 245, 3) := by decide +kernel
theorem dX10_regretAt_27 : decode cX10_regretAt 27 = .ok (.athrow, 1) := by decide +kernel
theorem dX10_regretAt_28 : decode cX10_regretAt 28 = .ok (.aload_n 0, 1) := by decide +kernel
theorem dX10_regretAt_29 : decode cX10_regretAt 29 = .ok (.getfield 22, 3) := by decide +kernel
theorem dX10_regretAt_32 : decode cX10_regretAt 32 = .ok (.getfield 236, 3) := by decide +kernel
theorem dX10_regretAt_35 : decode cX10_regretAt 35 = .ok (.getfield 246, 3) := by decide +kernel
theorem dX10_regretAt_38 : decode cX10_regretAt 38 = .ok (.iload_n 1, 1) := by decide +kernel
theorem dX10_regretAt_39 : decode cX10_regretAt 39 = .ok (.iaload, 1) := by decide +kernel
theorem dX10_regretAt_40 : decode cX10_regretAt 40 = .ok (.ireturn, 1) := by decide +kernel
theorem dX10_hits_0 : decode cX10_hits 0 = .ok (.aload_n 0, 1) := by decide +kernel
theorem dX10_hits_1 : decode cX10_hits 1 = .ok (.getfield 22, 3) := by decide +kernel
theorem dX10_hits_4 : decode cX10_hits 4 = .ok (.getfield 249, 3) := by decide +kernel
theorem dX10_hits_7 : decode cX10_hits 7 = .ok (.ireturn, 1) := by decide +kernel
theorem dX10_regrets_0 : decode cX10_regrets 0 = .ok (.aload_n 0, 1) := by decide +kernel
theorem dX10_regrets_1 : decode cX10_regrets 1 = .ok (.getfield 22, 3) := by decide +kernel
theorem dX10_regrets_4 : decode cX10_regrets 4 = .ok (.getfield 252, 3) := by decide +kernel
theorem dX10_regrets_7 : decode cX10_regrets 7 = .ok (.ireturn, 1) := by decide +kernel
theorem dX10_retractions_0 : decode cX10_retractions 0 = .ok (.aload_n 0, 1) := by decide +kernel
theorem dX10_retractions_1 : decode cX10_retractions 1 = .ok (.getfield 22, 3) := by decide +kernel
theorem dX10_retractions_4 : decode cX10_retractions 4 = .ok (.getfield 255, 3) := by decide +kernel
theorem dX10_retractions_7 : decode cX10_retractions 7 = .ok (.ireturn, 1) := by decide +kernel
theorem dX10_copyDifference_0 : decode cX10_copyDifference 0 = .ok (.aload_n 0, 1) := by decide +kernel
theorem dX10_copyDifference_1 : decode cX10_copyDifference 1 = .ok (.getfield 22, 3) := by decide +kernel
theorem dX10_copyDifference_4 : decode cX10_copyDifference 4 = .ok (.getfield 267, 3) := by decide +kernel
theorem dX10_copyDifference_7 : decode cX10_copyDifference 7 = .ok (.aload_n 0, 1) := by decide +kernel
theorem dX10_copyDifference_8 : decode cX10_copyDifference 8 = .ok (.getfield 22, 3) := by decide +kernel
theorem dX10_copyDifference_11 : decode cX10_copyDifference 11 = .ok (.getfield 149, 3) := by decide +kernel
theorem dX10_copyDifference_14 : decode cX10_copyDifference 14 = .ok (.invokevirtual 270, 3) := by decide +kernel
theorem dX10_copyDifference_17 : decode cX10_copyDifference 17 = .ok (.isub, 1) := by decide +kernel
theorem dX10_copyDifference_18 : decode cX10_copyDifference 18 = .ok (.aload_n 0, 1) := by decide +kernel
theorem dX10_copyDifference_19 : decode cX10_copyDifference 19 = .ok (.getfield 22, 3) := by decide +kernel
theorem dX10_copyDifference_22 : decode cX10_copyDifference 22 = .ok (.getfield 273, 3) := by decide +kernel
theorem dX10_copyDifference_25 : decode cX10_copyDifference 25 = .ok (.isub, 1) := by decide +kernel
theorem dX10_copyDifference_26 : decode cX10_copyDifference 26 = .ok (.ireturn, 1) := by decide +kernel
theorem dX10_coinDifference_0 : decode cX10_coinDifference 0 = .ok (.aload_n 0, 1) := by decide +kernel
theorem dX10_coinDifference_1 : decode cX10_coinDifference 1 = .ok (.getfield 22, 3) := by decide +kernel
theorem dX10_coinDifference_4 : decode cX10_coinDifference 4 = .ok (.getfield 276, 3) := by decide +kernel
theorem dX10_coinDifference_7 : decode cX10_coinDifference 7 = .ok (.aload_n 0, 1) := by decide +kernel
theorem dX10_coinDifference_8 : decode cX10_coinDifference 8 = .ok (.getfield 22, 3) := by decide +kernel
theorem dX10_coinDifference_11 : decode cX10_coinDifference 11 = .ok (.getfield 279, 3) := by decide +kernel
theorem dX10_coinDifference_14 : decode cX10_coinDifference 14 = .ok (.isub, 1) := by decide +kernel
theorem dX10_coinDifference_15 : decode cX10_coinDifference 15 = .ok (.aload_n 0, 1) := by decide +kernel
theorem dX10_coinDifference_16 : decode cX10_coinDifference 16 = .ok (.getfield 22, 3) := by decide +kernel
theorem dX10_coinDifference_19 : decode cX10_coinDifference 19 = .ok (.getfield 120, 3) := by decide +kernel
theorem dX10_coinDifference_22 : decode cX10_coinDifference 22 = .ok (.isub, 1) := by decide +kernel
theorem dX10_coinDifference_23 : decode cX10_coinDifference 23 = .ok (.ireturn, 1) := by decide +kernel
theorem dX10_bookErrors_0 : decode cX10_bookErrors 0 = .ok (.aload_n 0, 1) := by decide +kernel
theorem dX10_bookErrors_1 : decode cX10_bookErrors 1 = .ok (.getfield 22, 3) := by decide +kernel
theorem dX10_bookErrors_4 : decode cX10_bookErrors 4 = .ok (.getfield 149, 3) := by decide +kernel
theorem dX10_bookErrors_7 : decode cX10_bookErrors 7 = .ok (.invokevirtual 282, 3) := by decide +kernel
theorem dX10_bookErrors_10 : decode cX10_bookErrors 10 = .ok (.ireturn, 1) := by decide +kernel
theorem dX10_print_0 : decode cX10_print 0 = .ok (.aload_n 0, 1) := by decide +kernel
theorem dX10_print_1 : decode cX10_print 1 = .ok (.iload_n 1, 1) := by decide +kernel
theorem dX10_print_2 : decode cX10_print 2 = .ok (.invokevirtual 139, 3) := by decide +kernel
theorem dX10_print_5 : decode cX10_print 5 = .ok (.aload_n 0, 1) := by decide +kernel
theorem dX10_print_6 : decode cX10_print 6 = .ok (.iload_n 3, 1) := by decide +kernel
theorem dX10_print_7 : decode cX10_print 7 = .ok (.iconst 0, 1) := by decide +kernel
theorem dX10_print_8 : decode cX10_print 8 = .ok (.iconst 2, 1) := by decide +kernel
theorem dX10_print_9 : decode cX10_print 9 = .ok (.invokevirtual 84, 3) := by decide +kernel
theorem dX10_print_12 : decode cX10_print 12 = .ok (.aload_n 0, 1) := by decide +kernel
theorem dX10_print_13 : decode cX10_print 13 = .ok (.getfield 22, 3) := by decide +kernel
theorem dX10_print_16 : decode cX10_print 16 = .ok (.iload_n 1, 1) := by decide +kernel
theorem dX10_print_17 : decode cX10_print 17 = .ok (.iload_n 2, 1) := by decide +kernel
theorem dX10_print_18 : decode cX10_print 18 = .ok (.invokevirtual 223, 3) := by decide +kernel
theorem dX10_print_21 : decode cX10_print 21 = .ok (.ifCond .eq 11, 3) := by decide +kernel
theorem dX10_print_24 : decode cX10_print 24 = .ok (.new 74, 3) := by decide +kernel
theorem dX10_print_27 : decode cX10_print 27 = .ok (.dup, 1) := by decide +kernel
theorem dX10_print_28 : decode cX10_print 28 = .ok (.invokespecial 76, 3) := by decide +kernel
theorem dX10_print_31 : decode cX10_print 31 = .ok (.athrow, 1) := by decide +kernel
theorem dX10_print_32 : decode cX10_print 32 = .ok (.aload_n 0, 1) := by decide +kernel
theorem dX10_print_33 : decode cX10_print 33 = .ok (.getfield 32, 3) := by decide +kernel
theorem dX10_print_36 : decode cX10_print 36 = .ok (.aload_n 0, 1) := by decide +kernel
theorem dX10_print_37 : decode cX10_print 37 = .ok (.getfield 22, 3) := by decide +kernel
theorem dX10_print_40 : decode cX10_print 40 = .ok (.invokevirtual 96, 3) := by decide +kernel
theorem dX10_print_43 : decode cX10_print 43 = .ok (.aload_n 0, 1) := by decide +kernel
theorem dX10_print_44 : decode cX10_print 44 = .ok (.getfield 22, 3) := by decide +kernel
theorem dX10_print_47 : decode cX10_print 47 = .ok (.getfield 149, 3) := by decide +kernel
theorem dX10_print_50 : decode cX10_print 50 = .ok (.iload_n 1, 1) := by decide +kernel
theorem dX10_print_51 : decode cX10_print 51 = .ok (.iload_n 2, 1) := by decide +kernel
theorem dX10_print_52 : decode cX10_print 52 = .ok (.iload_n 3, 1) := by decide +kernel
theorem dX10_print_53 : decode cX10_print 53 = .ok (.invokevirtual 288, 3) := by decide +kernel
theorem dX10_print_56 : decode cX10_print 56 = .ok (.aload_n 0, 1) := by decide +kernel
theorem dX10_print_57 : decode cX10_print 57 = .ok (.getfield 22, 3) := by decide +kernel
theorem dX10_print_60 : decode cX10_print 60 = .ok (.getfield 149, 3) := by decide +kernel
theorem dX10_print_63 : decode cX10_print 63 = .ok (.getfield 185, 3) := by decide +kernel
theorem dX10_print_66 : decode cX10_print 66 = .ok (.iconst 1, 1) := by decide +kernel
theorem dX10_print_67 : decode cX10_print 67 = .ok (.isub, 1) := by decide +kernel
theorem dX10_print_68 : decode cX10_print 68 = .ok (.iconst 4, 1) := by decide +kernel
theorem dX10_print_69 : decode cX10_print 69 = .ok (.idiv, 1) := by decide +kernel
theorem dX10_print_70 : decode cX10_print 70 = .ok (.ireturn, 1) := by decide +kernel
theorem dX10_retract_0 : decode cX10_retract 0 = .ok (.aload_n 0, 1) := by decide +kernel
theorem dX10_retract_1 : decode cX10_retract 1 = .ok (.iload_n 1, 1) := by decide +kernel
theorem dX10_retract_2 : decode cX10_retract 2 = .ok (.invokevirtual 214, 3) := by decide +kernel
theorem dX10_retract_5 : decode cX10_retract 5 = .ok (.aload_n 0, 1) := by decide +kernel
theorem dX10_retract_6 : decode cX10_retract 6 = .ok (.getfield 22, 3) := by decide +kernel
theorem dX10_retract_9 : decode cX10_retract 9 = .ok (.iload_n 1, 1) := by decide +kernel
theorem dX10_retract_10 : decode cX10_retract 10 = .ok (.invokevirtual 220, 3) := by decide +kernel
theorem dX10_retract_13 : decode cX10_retract 13 = .ok (.ifCond .ne 11, 3) := by decide +kernel
theorem dX10_retract_16 : decode cX10_retract 16 = .ok (.new 74, 3) := by decide +kernel
theorem dX10_retract_19 : decode cX10_retract 19 = .ok (.dup, 1) := by decide +kernel
theorem dX10_retract_20 : decode cX10_retract 20 = .ok (.invokespecial 76, 3) := by decide +kernel
theorem dX10_retract_23 : decode cX10_retract 23 = .ok (.athrow, 1) := by decide +kernel
theorem dX10_retract_24 : decode cX10_retract 24 = .ok (.aload_n 0, 1) := by decide +kernel
theorem dX10_retract_25 : decode cX10_retract 25 = .ok (.getfield 32, 3) := by decide +kernel
theorem dX10_retract_28 : decode cX10_retract 28 = .ok (.aload_n 0, 1) := by decide +kernel
theorem dX10_retract_29 : decode cX10_retract 29 = .ok (.getfield 22, 3) := by decide +kernel
theorem dX10_retract_32 : decode cX10_retract 32 = .ok (.invokevirtual 96, 3) := by decide +kernel
theorem dX10_retract_35 : decode cX10_retract 35 = .ok (.aload_n 0, 1) := by decide +kernel
theorem dX10_retract_36 : decode cX10_retract 36 = .ok (.getfield 22, 3) := by decide +kernel
theorem dX10_retract_39 : decode cX10_retract 39 = .ok (.iload_n 1, 1) := by decide +kernel
theorem dX10_retract_40 : decode cX10_retract 40 = .ok (.invokevirtual 291, 3) := by decide +kernel
theorem dX10_retract_43 : decode cX10_retract 43 = .ok (.ireturn, 1) := by decide +kernel
theorem dX10_setTrust_0 : decode cX10_setTrust 0 = .ok (.aload_n 0, 1) := by decide +kernel
theorem dX10_setTrust_1 : decode cX10_setTrust 1 = .ok (.iload_n 1, 1) := by decide +kernel
theorem dX10_setTrust_2 : decode cX10_setTrust 2 = .ok (.invokevirtual 139, 3) := by decide +kernel
theorem dX10_setTrust_5 : decode cX10_setTrust 5 = .ok (.aload_n 0, 1) := by decide +kernel
theorem dX10_setTrust_6 : decode cX10_setTrust 6 = .ok (.iload_n 2, 1) := by decide +kernel
theorem dX10_setTrust_7 : decode cX10_setTrust 7 = .ok (.iconst 0, 1) := by decide +kernel
theorem dX10_setTrust_8 : decode cX10_setTrust 8 = .ok (.bipush 100, 2) := by decide +kernel
theorem dX10_setTrust_10 : decode cX10_setTrust 10 = .ok (.invokevirtual 84, 3) := by decide +kernel
theorem dX10_setTrust_13 : decode cX10_setTrust 13 = .ok (.aload_n 0, 1) := by decide +kernel
theorem dX10_setTrust_14 : decode cX10_setTrust 14 = .ok (.getfield 32, 3) := by decide +kernel
theorem dX10_setTrust_17 : decode cX10_setTrust 17 = .ok (.aload_n 0, 1) := by decide +kernel
theorem dX10_setTrust_18 : decode cX10_setTrust 18 = .ok (.getfield 22, 3) := by decide +kernel
theorem dX10_setTrust_21 : decode cX10_setTrust 21 = .ok (.invokevirtual 96, 3) := by decide +kernel
theorem dX10_setTrust_24 : decode cX10_setTrust 24 = .ok (.aload_n 0, 1) := by decide +kernel
theorem dX10_setTrust_25 : decode cX10_setTrust 25 = .ok (.getfield 22, 3) := by decide +kernel
theorem dX10_setTrust_28 : decode cX10_setTrust 28 = .ok (.getfield 99, 3) := by decide +kernel
theorem dX10_setTrust_31 : decode cX10_setTrust 31 = .ok (.getfield 146, 3) := by decide +kernel
theorem dX10_setTrust_34 : decode cX10_setTrust 34 = .ok (.iload_n 1, 1) := by decide +kernel
theorem dX10_setTrust_35 : decode cX10_setTrust 35 = .ok (.iaload, 1) := by decide +kernel
theorem dX10_setTrust_36 : decode cX10_setTrust 36 = .ok (.istore_n 3, 1) := by decide +kernel
theorem dX10_setTrust_37 : decode cX10_setTrust 37 = .ok (.aload_n 0, 1) := by decide +kernel
theorem dX10_setTrust_38 : decode cX10_setTrust 38 = .ok (.getfield 22, 3) := by decide +kernel
theorem dX10_setTrust_41 : decode cX10_setTrust 41 = .ok (.getfield 99, 3) := by decide +kernel
theorem dX10_setTrust_44 : decode cX10_setTrust 44 = .ok (.getfield 146, 3) := by decide +kernel
theorem dX10_setTrust_47 : decode cX10_setTrust 47 = .ok (.iload_n 1, 1) := by decide +kernel
theorem dX10_setTrust_48 : decode cX10_setTrust 48 = .ok (.iload_n 2, 1) := by decide +kernel
theorem dX10_setTrust_49 : decode cX10_setTrust 49 = .ok (.iastore, 1) := by decide +kernel
theorem dX10_setTrust_50 : decode cX10_setTrust 50 = .ok (.iload_n 3, 1) := by decide +kernel
theorem dX10_setTrust_51 : decode cX10_setTrust 51 = .ok (.ireturn, 1) := by decide +kernel
theorem dX10_setPeople_0 : decode cX10_setPeople 0 = .ok (.aload_n 0, 1) := by decide +kernel
theorem dX10_setPeople_1 : decode cX10_setPeople 1 = .ok (.iload_n 1, 1) := by decide +kernel
theorem dX10_setPeople_2 : decode cX10_setPeople 2 = .ok (.invokevirtual 139, 3) := by decide +kernel
theorem dX10_setPeople_5 : decode cX10_setPeople 5 = .ok (.aload_n 0, 1) := by decide +kernel
theorem dX10_setPeople_6 : decode cX10_setPeople 6 = .ok (.iload_n 2, 1) := by decide +kernel
theorem dX10_setPeople_7 : decode cX10_setPeople 7 = .ok (.iconst 1, 1) := by decide +kernel
theorem dX10_setPeople_8 : decode cX10_setPeople 8 = .ok (.bipush 99, 2) := by decide +kernel
theorem dX10_setPeople_10 : decode cX10_setPeople 10 = .ok (.invokevirtual 84, 3) := by decide +kernel
theorem dX10_setPeople_13 : decode cX10_setPeople 13 = .ok (.aload_n 0, 1) := by decide +kernel
theorem dX10_setPeople_14 : decode cX10_setPeople 14 = .ok (.getfield 32, 3) := by decide +kernel
theorem dX10_setPeople_17 : decode cX10_setPeople 17 = .ok (.aload_n 0, 1) := by decide +kernel
theorem dX10_setPeople_18 : decode cX10_setPeople 18 = .ok (.getfield 22, 3) := by decide +kernel
theorem dX10_setPeople_21 : decode cX10_setPeople 21 = .ok (.invokevirtual 96, 3) := by decide +kernel
theorem dX10_setPeople_24 : decode cX10_setPeople 24 = .ok (.aload_n 0, 1) := by decide +kernel
theorem dX10_setPeople_25 : decode cX10_setPeople 25 = .ok (.getfield 22, 3) := by decide +kernel
theorem dX10_setPeople_28 : decode cX10_setPeople 28 = .ok (.getfield 99, 3) := by decide +kernel
theorem dX10_setPeople_31 : decode cX10_setPeople 31 = .ok (.getfield 142, 3) := by decide +kernel
theorem dX10_setPeople_34 : decode cX10_setPeople 34 = .ok (.iload_n 1, 1) := by decide +kernel
theorem dX10_setPeople_35 : decode cX10_setPeople 35 = .ok (.iaload, 1) := by decide +kernel
theorem dX10_setPeople_36 : decode cX10_setPeople 36 = .ok (.istore_n 3, 1) := by decide +kernel
theorem dX10_setPeople_37 : decode cX10_setPeople 37 = .ok (.aload_n 0, 1) := by decide +kernel
theorem dX10_setPeople_38 : decode cX10_setPeople 38 = .ok (.getfield 22, 3) := by decide +kernel
theorem dX10_setPeople_41 : decode cX10_setPeople 41 = .ok (.getfield 99, 3) := by decide +kernel
theorem dX10_setPeople_44 : decode cX10_setPeople 44 = .ok (.getfield 142, 3) := by decide +kernel
theorem dX10_setPeople_47 : decode cX10_setPeople 47 = .ok (.iload_n 1, 1) := by decide +kernel
theorem dX10_setPeople_48 : decode cX10_setPeople 48 = .ok (.iload_n 2, 1) := by decide +kernel
theorem dX10_setPeople_49 : decode cX10_setPeople 49 = .ok (.iastore, 1) := by decide +kernel
theorem dX10_setPeople_50 : decode cX10_setPeople 50 = .ok (.iload_n 3, 1) := by decide +kernel
theorem dX10_setPeople_51 : decode cX10_setPeople 51 = .ok (.ireturn, 1) := by decide +kernel
theorem dX10_setOdds_0 : decode cX10_setOdds 0 = .ok (.aload_n 0, 1) := by decide +kernel
theorem dX10_setOdds_1 : decode cX10_setOdds 1 = .ok (.iload_n 1, 1) := by decide +kernel
theorem dX10_setOdds_2 : decode cX10_setOdds 2 = .ok (.iconst 0, 1) := by decide +kernel
theorem dX10_setOdds_3 : decode cX10_setOdds 3 = .ok (.iconst 2, 1) := by decide +kernel
theorem dX10_setOdds_4 : decode cX10_setOdds 4 = .ok (.invokevirtual 84, 3) := by decide +kernel
theorem dX10_setOdds_7 : decode cX10_setOdds 7 = .ok (.aload_n 0, 1) := by decide +kernel
theorem dX10_setOdds_8 : decode cX10_setOdds 8 = .ok (.iload_n 2, 1) := by decide +kernel
theorem dX10_setOdds_9 : decode cX10_setOdds 9 = .ok (.iconst 0, 1) := by decide +kernel
theorem dX10_setOdds_10 : decode cX10_setOdds 10 = .ok (.bipush 20, 2) := by decide +kernel
theorem dX10_setOdds_12 : decode cX10_setOdds 12 = .ok (.invokevirtual 84, 3) := by decide +kernel
theorem dX10_setOdds_15 : decode cX10_setOdds 15 = .ok (.aload_n 0, 1) := by decide +kernel
theorem dX10_setOdds_16 : decode cX10_setOdds 16 = .ok (.getfield 22, 3) := by decide +kernel
theorem dX10_setOdds_19 : decode cX10_setOdds 19 = .ok (.getfield 111, 3) := by decide +kernel
theorem dX10_setOdds_22 : decode cX10_setOdds 22 = .ok (.getfield 175, 3) := by decide +kernel
theorem dX10_setOdds_25 : decode cX10_setOdds 25 = .ok (.iload_n 1, 1) := by decide +kernel
theorem dX10_setOdds_26 : decode cX10_setOdds 26 = .ok (.iaload, 1) := by decide +kernel
theorem dX10_setOdds_27 : decode cX10_setOdds 27 = .ok (.istore_n 3, 1) := by decide +kernel
theorem dX10_setOdds_28 : decode cX10_setOdds 28 = .ok (.aload_n 0, 1) := by decide +kernel
theorem dX10_setOdds_29 : decode cX10_setOdds 29 = .ok (.getfield 22, 3) := by decide +kernel
theorem dX10_setOdds_32 : decode cX10_setOdds 32 = .ok (.getfield 111, 3) := by decide +kernel
theorem dX10_setOdds_35 : decode cX10_setOdds 35 = .ok (.invokevirtual 178, 3) := by decide +kernel
theorem dX10_setOdds_38 : decode cX10_setOdds 38 = .ok (.iload_n 3, 1) := by decide +kernel
theorem dX10_setOdds_39 : decode cX10_setOdds 39 = .ok (.isub, 1) := by decide +kernel
theorem dX10_setOdds_40 : decode cX10_setOdds 40 = .ok (.iload_n 2, 1) := by decide +kernel
theorem dX10_setOdds_41 : decode cX10_setOdds 41 = .ok (.iadd, 1) := by decide +kernel
theorem dX10_setOdds_42 : decode cX10_setOdds 42 = .ok (.ifCond .ne 11, 3) := by decide +kernel
theorem dX10_setOdds_45 : decode cX10_setOdds 45 = .ok (.new 74, 3) := by decide +kernel
theorem dX10_setOdds_48 : decode cX10_setOdds 48 = .ok (.dup, 1) := by decide +kernel
theorem dX10_setOdds_49 : decode cX10_setOdds 49 = .ok (.invokespecial 76, 3) := by decide +kernel
theorem dX10_setOdds_52 : decode cX10_setOdds 52 = .ok (.athrow, 1) := by decide +kernel
theorem dX10_setOdds_53 : decode cX10_setOdds 53 = .ok (.aload_n 0, 1) := by decide +kernel
theorem dX10_setOdds_54 : decode cX10_setOdds 54 = .ok (.getfield 32, 3) := by decide +kernel
theorem dX10_setOdds_57 : decode cX10_setOdds 57 = .ok (.aload_n 0, 1) := by decide +kernel
theorem dX10_setOdds_58 : decode cX10_setOdds 58 = .ok (.getfield 22, 3) := by decide +kernel
theorem dX10_setOdds_61 : decode cX10_setOdds 61 = .ok (.invokevirtual 96, 3) := by decide +kernel
theorem dX10_setOdds_64 : decode cX10_setOdds 64 = .ok (.aload_n 0, 1) := by decide +kernel
theorem dX10_setOdds_65 : decode cX10_setOdds 65 = .ok (.getfield 22, 3) := by decide +kernel
theorem dX10_setOdds_68 : decode cX10_setOdds 68 = .ok (.getfield 111, 3) := by decide +kernel
theorem dX10_setOdds_71 : decode cX10_setOdds 71 = .ok (.getfield 175, 3) := by decide +kernel
theorem dX10_setOdds_74 : decode cX10_setOdds 74 = .ok (.iload_n 1, 1) := by decide +kernel
theorem dX10_setOdds_75 : decode cX10_setOdds 75 = .ok (.iload_n 2, 1) := by decide +kernel
theorem dX10_setOdds_76 : decode cX10_setOdds 76 = .ok (.iastore, 1) := by decide +kernel
theorem dX10_setOdds_77 : decode cX10_setOdds 77 = .ok (.iload_n 3, 1) := by decide +kernel
theorem dX10_setOdds_78 : decode cX10_setOdds 78 = .ok (.ireturn, 1) := by decide +kernel
theorem dX10_pass_0 : decode cX10_pass 0 = .ok (.aload_n 0, 1) := by decide +kernel
theorem dX10_pass_1 : decode cX10_pass 1 = .ok (.iload_n 1, 1) := by decide +kernel
theorem dX10_pass_2 : decode cX10_pass 2 = .ok (.iconst 1, 1) := by decide +kernel
theorem dX10_pass_3 : decode cX10_pass 3 = .ok (.sipush 200, 3) := by decide +kernel
theorem dX10_pass_6 : decode cX10_pass 6 = .ok (.invokevirtual 84, 3) := by decide +kernel
theorem dX10_pass_9 : decode cX10_pass 9 = .ok (.aload_n 0, 1) := by decide +kernel
theorem dX10_pass_10 : decode cX10_pass 10 = .ok (.getfield 32, 3) := by decide +kernel
theorem dX10_pass_13 : decode cX10_pass 13 = .ok (.aload_n 0, 1) := by decide +kernel
theorem dX10_pass_14 : decode cX10_pass 14 = .ok (.getfield 22, 3) := by decide +kernel
theorem dX10_pass_17 : decode cX10_pass 17 = .ok (.invokevirtual 96, 3) := by decide +kernel
theorem dX10_pass_20 : decode cX10_pass 20 = .ok (.aload_n 0, 1) := by decide +kernel
theorem dX10_pass_21 : decode cX10_pass 21 = .ok (.getfield 22, 3) := by decide +kernel
theorem dX10_pass_24 : decode cX10_pass 24 = .ok (.getfield 252, 3) := by decide +kernel
theorem dX10_pass_27 : decode cX10_pass 27 = .ok (.istore_n 2, 1) := by decide +kernel
theorem dX10_pass_28 : decode cX10_pass 28 = .ok (.aload_n 0, 1) := by decide +kernel
theorem dX10_pass_29 : decode cX10_pass 29 = .ok (.getfield 22, 3) := by decide +kernel
theorem dX10_pass_32 : decode cX10_pass 32 = .ok (.iload_n 1, 1) := by decide +kernel
theorem dX10_pass_33 : decode cX10_pass 33 = .ok (.invokevirtual 294, 3) := by decide +kernel
theorem dX10_pass_36 : decode cX10_pass 36 = .ok (.aload_n 0, 1) := by decide +kernel
theorem dX10_pass_37 : decode cX10_pass 37 = .ok (.getfield 22, 3) := by decide +kernel
theorem dX10_pass_40 : decode cX10_pass 40 = .ok (.getfield 252, 3) := by decide +kernel
theorem dX10_pass_43 : decode cX10_pass 43 = .ok (.iload_n 2, 1) := by decide +kernel
theorem dX10_pass_44 : decode cX10_pass 44 = .ok (.isub, 1) := by decide +kernel
theorem dX10_pass_45 : decode cX10_pass 45 = .ok (.ireturn, 1) := by decide +kernel
theorem dX10_requireVillage_0 : decode cX10_requireVillage 0 = .ok (.aload_n 0, 1) := by decide +kernel
theorem dX10_requireVillage_1 : decode cX10_requireVillage 1 = .ok (.getfield 22, 3) := by decide +kernel
theorem dX10_requireVillage_4 : decode cX10_requireVillage 4 = .ok (.getfield 99, 3) := by decide +kernel
theorem dX10_requireVillage_7 : decode cX10_requireVillage 7 = .ok (.iload_n 1, 1) := by decide +kernel
theorem dX10_requireVillage_8 : decode cX10_requireVillage 8 = .ok (.invokevirtual 319, 3) := by decide +kernel
theorem dX10_requireVillage_11 : decode cX10_requireVillage 11 = .ok (.ifCond .ne 11, 3) := by decide +kernel
theorem dX10_requireVillage_14 : decode cX10_requireVillage 14 = .ok (.new 243, 3) := by decide +kernel
theorem dX10_requireVillage_17 : decode cX10_requireVillage 17 = .ok (.dup, 1) := by decide +kernel
theorem dX10_requireVillage_18 : decode cX10_requireVillage 18 = .ok (.invokespecial 245, 3) := by decide +kernel
theorem dX10_requireVillage_21 : decode cX10_requireVillage 21 = .ok (.athrow, 1) := by decide +kernel
theorem dX10_requireVillage_22 : decode cX10_requireVillage 22 = .ok (.return_, 1) := by decide +kernel
theorem dX10_requirePage_0 : decode cX10_requirePage 0 = .ok (.aload_n 0, 1) := by decide +kernel
theorem dX10_requirePage_1 : decode cX10_requirePage 1 = .ok (.getfield 22, 3) := by decide +kernel
theorem dX10_requirePage_4 : decode cX10_requirePage 4 = .ok (.getfield 149, 3) := by decide +kernel
theorem dX10_requirePage_7 : decode cX10_requirePage 7 = .ok (.iload_n 1, 1) := by decide +kernel
theorem dX10_requirePage_8 : decode cX10_requirePage 8 = .ok (.invokevirtual 323, 3) := by decide +kernel
theorem dX10_requirePage_11 : decode cX10_requirePage 11 = .ok (.ifCond .ne 11, 3) := by decide +kernel
theorem dX10_requirePage_14 : decode cX10_requirePage 14 = .ok (.new 205, 3) := by decide +kernel
theorem dX10_requirePage_17 : decode cX10_requirePage 17 = .ok (.dup, 1) := by decide +kernel
theorem dX10_requirePage_18 : decode cX10_requirePage 18 = .ok (.invokespecial 207, 3) := by decide +kernel
theorem dX10_requirePage_21 : decode cX10_requirePage 21 = .ok (.athrow, 1) := by decide +kernel
theorem dX10_requirePage_22 : decode cX10_requirePage 22 = .ok (.return_, 1) := by decide +kernel
theorem dX10_requireRange_0 : decode cX10_requireRange 0 = .ok (.iload_n 1, 1) := by decide +kernel
theorem dX10_requireRange_1 : decode cX10_requireRange 1 = .ok (.iload_n 2, 1) := by decide +kernel
theorem dX10_requireRange_2 : decode cX10_requireRange 2 = .ok (.iload_n 3, 1) := by decide +kernel
theorem dX10_requireRange_3 : decode cX10_requireRange 3 = .ok (.invokestatic 201, 3) := by decide +kernel
theorem dX10_requireRange_6 : decode cX10_requireRange 6 = .ok (.ifCond .ne 11, 3) := by decide +kernel
theorem dX10_requireRange_9 : decode cX10_requireRange 9 = .ok (.new 93, 3) := by decide +kernel
theorem dX10_requireRange_12 : decode cX10_requireRange 12 = .ok (.dup, 1) := by decide +kernel
theorem dX10_requireRange_13 : decode cX10_requireRange 13 = .ok (.invokespecial 95, 3) := by decide +kernel
theorem dX10_requireRange_16 : decode cX10_requireRange 16 = .ok (.athrow, 1) := by decide +kernel
theorem dX10_requireRange_17 : decode cX10_requireRange 17 = .ok (.return_, 1) := by decide +kernel
theorem dX10_requireForecast_0 : decode cX10_requireForecast 0 = .ok (.aload_n 0, 1) := by decide +kernel
theorem dX10_requireForecast_1 : decode cX10_requireForecast 1 = .ok (.iload_n 1, 1) := by decide +kernel
theorem dX10_requireForecast_2 : decode cX10_requireForecast 2 = .ok (.invokevirtual 139, 3) := by decide +kernel
theorem dX10_requireForecast_5 : decode cX10_requireForecast 5 = .ok (.aload_n 0, 1) := by decide +kernel
theorem dX10_requireForecast_6 : decode cX10_requireForecast 6 = .ok (.getfield 22, 3) := by decide +kernel
theorem dX10_requireForecast_9 : decode cX10_requireForecast 9 = .ok (.getfield 149, 3) := by decide +kernel
theorem dX10_requireForecast_12 : decode cX10_requireForecast 12 = .ok (.iload_n 1, 1) := by decide +kernel
theorem dX10_requireForecast_13 : decode cX10_requireForecast 13 = .ok (.iload_n 2, 1) := by decide +kernel
theorem dX10_requireForecast_14 : decode cX10_requireForecast 14 = .ok (.invokevirtual 186, 3) := by decide +kernel
theorem dX10_requireForecast_17 : decode cX10_requireForecast 17 = .ok (.istore_n 3, 1) := by decide +kernel
theorem dX10_requireForecast_18 : decode cX10_requireForecast 18 = .ok (.iload_n 3, 1) := by decide +kernel
theorem dX10_requireForecast_19 : decode cX10_requireForecast 19 = .ok (.iconst (-1), 1) := by decide +kernel
theorem dX10_requireForecast_20 : decode cX10_requireForecast 20 = .ok (.if_icmp .ne 11, 3) := by decide +kernel
theorem dX10_requireForecast_23 : decode cX10_requireForecast 23 = .ok (.new 205, 3) := by decide +kernel
theorem dX10_requireForecast_26 : decode cX10_requireForecast 26 = .ok (.dup, 1) := by decide +kernel
theorem dX10_requireForecast_27 : decode cX10_requireForecast 27 = .ok (.invokespecial 207, 3) := by decide +kernel
theorem dX10_requireForecast_30 : decode cX10_requireForecast 30 = .ok (.athrow, 1) := by decide +kernel
theorem dX10_requireForecast_31 : decode cX10_requireForecast 31 = .ok (.iload_n 3, 1) := by decide +kernel
theorem dX10_requireForecast_32 : decode cX10_requireForecast 32 = .ok (.ireturn, 1) := by decide +kernel
theorem dX10_isBetween_0 : decode cX10_isBetween 0 = .ok (.iload_n 0, 1) := by decide +kernel
theorem dX10_isBetween_1 : decode cX10_isBetween 1 = .ok (.iload_n 1, 1) := by decide +kernel
theorem dX10_isBetween_2 : decode cX10_isBetween 2 = .ok (.if_icmp .lt 12, 3) := by decide +kernel
theorem dX10_isBetween_5 : decode cX10_isBetween 5 = .ok (.iload_n 0, 1) := by decide +kernel
theorem dX10_isBetween_6 : decode cX10_isBetween 6 = .ok (.iload_n 2, 1) := by decide +kernel
theorem dX10_isBetween_7 : decode cX10_isBetween 7 = .ok (.if_icmp .gt 7, 3) := by decide +kernel
theorem dX10_isBetween_10 : decode cX10_isBetween 10 = .ok (.iconst 1, 1) := by decide +kernel
theorem dX10_isBetween_11 : decode cX10_isBetween 11 = .ok (.goto 4, 3) := by decide +kernel
theorem dX10_isBetween_14 : decode cX10_isBetween 14 = .ok (.iconst 0, 1) := by decide +kernel
theorem dX10_isBetween_15 : decode cX10_isBetween 15 = .ok (.ireturn, 1) := by decide +kernel
theorem dX10_isLetter_0 : decode cX10_isLetter 0 = .ok (.iload_n 0, 1) := by decide +kernel
theorem dX10_isLetter_1 : decode cX10_isLetter 1 = .ok (.bipush 97, 2) := by decide +kernel
theorem dX10_isLetter_3 : decode cX10_isLetter 3 = .ok (.if_icmp .lt 13, 3) := by decide +kernel
theorem dX10_isLetter_6 : decode cX10_isLetter 6 = .ok (.iload_n 0, 1) := by decide +kernel
theorem dX10_isLetter_7 : decode cX10_isLetter 7 = .ok (.bipush 122, 2) := by decide +kernel
theorem dX10_isLetter_9 : decode cX10_isLetter 9 = .ok (.if_icmp .gt 7, 3) := by decide +kernel
theorem dX10_isLetter_12 : decode cX10_isLetter 12 = .ok (.iconst 1, 1) := by decide +kernel
theorem dX10_isLetter_13 : decode cX10_isLetter 13 = .ok (.goto 4, 3) := by decide +kernel
theorem dX10_isLetter_16 : decode cX10_isLetter 16 = .ok (.iconst 0, 1) := by decide +kernel
theorem dX10_isLetter_17 : decode cX10_isLetter 17 = .ok (.ireturn, 1) := by decide +kernel
theorem dX10_isDigit_0 : decode cX10_isDigit 0 = .ok (.iload_n 0, 1) := by decide +kernel
theorem dX10_isDigit_1 : decode cX10_isDigit 1 = .ok (.bipush 48, 2) := by decide +kernel
theorem dX10_isDigit_3 : decode cX10_isDigit 3 = .ok (.if_icmp .lt 13, 3) := by decide +kernel
theorem dX10_isDigit_6 : decode cX10_isDigit 6 = .ok (.iload_n 0, 1) := by decide +kernel
theorem dX10_isDigit_7 : decode cX10_isDigit 7 = .ok (.bipush 57, 2) := by decide +kernel
theorem dX10_isDigit_9 : decode cX10_isDigit 9 = .ok (.if_icmp .gt 7, 3) := by decide +kernel
theorem dX10_isDigit_12 : decode cX10_isDigit 12 = .ok (.iconst 1, 1) := by decide +kernel
theorem dX10_isDigit_13 : decode cX10_isDigit 13 = .ok (.goto 4, 3) := by decide +kernel
theorem dX10_isDigit_16 : decode cX10_isDigit 16 = .ok (.iconst 0, 1) := by decide +kernel
theorem dX10_isDigit_17 : decode cX10_isDigit 17 = .ok (.ireturn, 1) := by decide +kernel
theorem dX10_placeIn_0 : decode cX10_placeIn 0 = .ok (.iconst 0, 1) := by decide +kernel
theorem dX10_placeIn_1 : decode cX10_placeIn 1 = .ok (.istore_n 3, 1) := by decide +kernel
theorem dX10_placeIn_2 : decode cX10_placeIn 2 = .ok (.iload_n 3, 1) := by decide +kernel
theorem dX10_placeIn_3 : decode cX10_placeIn 3 = .ok (.iload_n 1, 1) := by decide +kernel
theorem dX10_placeIn_4 : decode cX10_placeIn 4 = .ok (.if_icmp .ge 18, 3) := by decide +kernel
theorem dX10_placeIn_7 : decode cX10_placeIn 7 = .ok (.aload_n 0, 1) := by decide +kernel
theorem dX10_placeIn_8 : decode cX10_placeIn 8 = .ok (.iload_n 3, 1) := by decide +kernel
theorem dX10_placeIn_9 : decode cX10_placeIn 9 = .ok (.iaload, 1) := by decide +kernel
theorem dX10_placeIn_10 : decode cX10_placeIn 10 = .ok (.iload_n 2, 1) := by decide +kernel
theorem dX10_placeIn_11 : decode cX10_placeIn 11 = .ok (.if_icmp .ne 5, 3) := by decide +kernel
theorem dX10_placeIn_14 : decode cX10_placeIn 14 = .ok (.iload_n 3, 1) := by decide +kernel
theorem dX10_placeIn_15 : decode cX10_placeIn 15 = .ok (.ireturn, 1) := by decide +kernel
theorem dX10_placeIn_16 : decode cX10_placeIn 16 = .ok (.iinc 3 1, 3) := by decide +kernel
theorem dX10_placeIn_19 : decode cX10_placeIn 19 = .ok (.goto (-17), 3) := by decide +kernel
theorem dX10_placeIn_22 : decode cX10_placeIn 22 = .ok (.iconst (-1), 1) := by decide +kernel
theorem dX10_placeIn_23 : decode cX10_placeIn 23 = .ok (.ireturn, 1) := by decide +kernel
theorem dX10_labelOf_0 : decode cX10_labelOf 0 = .ok (.bipush 10, 2) := by decide +kernel
theorem dX10_labelOf_2 : decode cX10_labelOf 2 = .ok (.iload_n 1, 1) := by decide +kernel
theorem dX10_labelOf_3 : decode cX10_labelOf 3 = .ok (.imul, 1) := by decide +kernel
theorem dX10_labelOf_4 : decode cX10_labelOf 4 = .ok (.iload_n 0, 1) := by decide +kernel
theorem dX10_labelOf_5 : decode cX10_labelOf 5 = .ok (.iadd, 1) := by decide +kernel
theorem dX10_labelOf_6 : decode cX10_labelOf 6 = .ok (.ireturn, 1) := by decide +kernel
theorem dX11_init_0 : decode cX11_init 0 = .ok (.aload_n 0, 1) := by decide +kernel
theorem dX11_init_1 : decode cX11_init 1 = .ok (.invokespecial 1, 3) := by decide +kernel
theorem dX11_init_4 : decode cX11_init 4 = .ok (.aload_n 0, 1) := by decide +kernel
theorem dX11_init_5 : decode cX11_init 5 = .ok (.iconst 3, 1) := by decide +kernel
theorem dX11_init_6 : decode cX11_init 6 = .ok (.newarray .int, 2) := by decide +kernel
theorem dX11_init_8 : decode cX11_init 8 = .ok (.putfield 7, 3) := by decide +kernel
theorem dX11_init_11 : decode cX11_init 11 = .ok (.aload_n 0, 1) := by decide +kernel
theorem dX11_init_12 : decode cX11_init 12 = .ok (.iconst 3, 1) := by decide +kernel
theorem dX11_init_13 : decode cX11_init 13 = .ok (.newarray .int, 2) := by decide +kernel
theorem dX11_init_15 : decode cX11_init 15 = .ok (.putfield 13, 3) := by decide +kernel
theorem dX11_init_18 : decode cX11_init 18 = .ok (.aload_n 0, 1) := by decide +kernel
theorem dX11_init_19 : decode cX11_init 19 = .ok (.iconst 3, 1) := by decide +kernel
theorem dX11_init_20 : decode cX11_init 20 = .ok (.newarray .int, 2) := by decide +kernel
theorem dX11_init_22 : decode cX11_init 22 = .ok (.putfield 16, 3) := by decide +kernel
theorem dX11_init_25 : decode cX11_init 25 = .ok (.aload_n 0, 1) := by decide +kernel
theorem dX11_init_26 : decode cX11_init 26 = .ok (.iconst 3, 1) := by decide +kernel
theorem dX11_init_27 : decode cX11_init 27 = .ok (.newarray .int, 2) := by decide +kernel
theorem dX11_init_29 : decode cX11_init 29 = .ok (.putfield 19, 3) := by decide +kernel
theorem dX11_init_32 : decode cX11_init 32 = .ok (.aload_n 0, 1) := by decide +kernel
theorem dX11_init_33 : decode cX11_init 33 = .ok (.iconst 2, 1) := by decide +kernel
theorem dX11_init_34 : decode cX11_init 34 = .ok (.newarray .int, 2) := by decide +kernel
theorem dX11_init_36 : decode cX11_init 36 = .ok (.putfield 22, 3) := by decide +kernel
theorem dX11_init_39 : decode cX11_init 39 = .ok (.aload_n 0, 1) := by decide +kernel
theorem dX11_init_40 : decode cX11_init 40 = .ok (.iconst 2, 1) := by decide +kernel
theorem dX11_init_41 : decode cX11_init 41 = .ok (.newarray .int, 2) := by decide +kernel
theorem dX11_init_43 : decode cX11_init 43 = .ok (.putfield 25, 3) := by decide +kernel
theorem dX11_init_46 : decode cX11_init 46 = .ok (.aload_n 0, 1) := by decide +kernel
theorem dX11_init_47 : decode cX11_init 47 = .ok (.iconst 2, 1) := by decide +kernel
theorem dX11_init_48 : decode cX11_init 48 = .ok (.newarray .int, 2) := by decide +kernel
theorem dX11_init_50 : decode cX11_init 50 = .ok (.putfield 28, 3) := by decide +kernel
theorem dX11_init_53 : decode cX11_init 53 = .ok (.aload_n 0, 1) := by decide +kernel
theorem dX11_init_54 : decode cX11_init 54 = .ok (.iconst 2, 1) := by decide +kernel
theorem dX11_init_55 : decode cX11_init 55 = .ok (.newarray .int, 2) := by decide +kernel
theorem dX11_init_57 : decode cX11_init 57 = .ok (.putfield 31, 3) := by decide +kernel
theorem dX11_init_60 : decode cX11_init 60 = .ok (.aload_n 0, 1) := by decide +kernel
theorem dX11_init_61 : decode cX11_init 61 = .ok (.iconst 0, 1) := by decide +kernel
theorem dX11_init_62 : decode cX11_init 62 = .ok (.anewarray 34, 3) := by decide +kernel
theorem dX11_init_65 : decode cX11_init 65 = .ok (.putfield 35, 3) := by decide +kernel
theorem dX11_init_68 : decode cX11_init 68 = .ok (.aload_n 0, 1) := by decide +kernel
theorem dX11_init_69 : decode cX11_init 69 = .ok (.iconst 0, 1) := by decide +kernel
theorem dX11_init_70 : decode cX11_init 70 = .ok (.newarray .int, 2) := by decide +kernel
theorem dX11_init_72 : decode cX11_init 72 = .ok (.putfield 39, 3) := by decide +kernel
theorem dX11_init_75 : decode cX11_init 75 = .ok (.aload_n 0, 1) := by decide +kernel
theorem dX11_init_76 : decode cX11_init 76 = .ok (.aload_n 1, 1) := by decide +kernel
theorem dX11_init_77 : decode cX11_init 77 = .ok (.iconst 0, 1) := by decide +kernel
theorem dX11_init_78 : decode cX11_init 78 = .ok (.invokestatic 42, 3) := by decide +kernel
theorem dX11_init_81 : decode cX11_init 81 = .ok (.sipush 1024, 3) := by decide +kernel
theorem dX11_init_84 : decode cX11_init 84 = .ok (.irem, 1) := by decide +kernel
theorem dX11_init_85 : decode cX11_init 85 = .ok (.putfield 48, 3) := by decide +kernel
theorem dX11_init_88 : decode cX11_init 88 = .ok (.iconst 0, 1) := by decide +kernel
theorem dX11_init_89 : decode cX11_init 89 = .ok (.istore_n 2, 1) := by decide +kernel
theorem dX11_init_90 : decode cX11_init 90 = .ok (.iload_n 2, 1) := by decide +kernel
theorem dX11_init_91 : decode cX11_init 91 = .ok (.iconst 3, 1) := by decide +kernel
theorem dX11_init_92 : decode cX11_init 92 = .ok (.if_icmp .ge 42, 3) := by decide +kernel
theorem dX11_init_95 : decode cX11_init 95 = .ok (.aload_n 0, 1) := by decide +kernel
theorem dX11_init_96 : decode cX11_init 96 = .ok (.getfield 16, 3) := by decide +kernel
theorem dX11_init_99 : decode cX11_init 99 = .ok (.iload_n 2, 1) := by decide +kernel
theorem dX11_init_100 : decode cX11_init 100 = .ok (.aload_n 1, 1) := by decide +kernel
theorem dX11_init_101 : decode cX11_init 101 = .ok (.iload_n 2, 1) := by decide +kernel
theorem dX11_init_102 : decode cX11_init 102 = .ok (.invokestatic 52, 3) := by decide +kernel
theorem dX11_init_105 : decode cX11_init 105 = .ok (.iastore, 1) := by decide +kernel
theorem dX11_init_106 : decode cX11_init 106 = .ok (.aload_n 0, 1) := by decide +kernel
theorem dX11_init_107 : decode cX11_init 107 = .ok (.getfield 7, 3) := by decide +kernel
theorem dX11_init_110 : decode cX11_init 110 = .ok (.iload_n 2, 1) := by decide +kernel
theorem dX11_init_111 : decode cX11_init 111 = .ok (.aload_n 1, 1) := by decide +kernel
theorem dX11_init_112 : decode cX11_init 112 = .ok (.iload_n 2, 1) := by decide +kernel
theorem dX11_init_113 : decode cX11_init 113 = .ok (.invokestatic 54, 3) := by decide +kernel
theorem dX11_init_116 : decode cX11_init 116 = .ok (.iastore, 1) := by decide +kernel
theorem dX11_init_117 : decode cX11_init 117 = .ok (.aload_n 0, 1) := by decide +kernel
theorem dX11_init_118 : decode cX11_init 118 = .ok (.getfield 13, 3) := by decide +kernel
theorem dX11_init_121 : decode cX11_init 121 = .ok (.iload_n 2, 1) := by decide +kernel
theorem dX11_init_122 : decode cX11_init 122 = .ok (.aload_n 1, 1) := by decide +kernel
theorem dX11_init_123 : decode cX11_init 123 = .ok (.iload_n 2, 1) := by decide +kernel
theorem dX11_init_124 : decode cX11_init 124 = .ok (.invokestatic 56, 3) := by decide +kernel
theorem dX11_init_127 : decode cX11_init 127 = .ok (.iastore, 1) := by decide +kernel
theorem dX11_init_128 : decode cX11_init 128 = .ok (.iinc 2 1, 3) := by decide +kernel
theorem dX11_init_131 : decode cX11_init 131 = .ok (.goto (-41), 3) := by decide +kernel
theorem dX11_init_134 : decode cX11_init 134 = .ok (.iconst 0, 1) := by decide +kernel
theorem dX11_init_135 : decode cX11_init 135 = .ok (.istore_n 2, 1) := by decide +kernel
theorem dX11_init_136 : decode cX11_init 136 = .ok (.iload_n 2, 1) := by decide +kernel
theorem dX11_init_137 : decode cX11_init 137 = .ok (.iconst 2, 1) := by decide +kernel
theorem dX11_init_138 : decode cX11_init 138 = .ok (.if_icmp .ge 53, 3) := by decide +kernel
theorem dX11_init_141 : decode cX11_init 141 = .ok (.aload_n 0, 1) := by decide +kernel
theorem dX11_init_142 : decode cX11_init 142 = .ok (.getfield 22, 3) := by decide +kernel
theorem dX11_init_145 : decode cX11_init 145 = .ok (.iload_n 2, 1) := by decide +kernel
theorem dX11_init_146 : decode cX11_init 146 = .ok (.aload_n 1, 1) := by decide +kernel
theorem dX11_init_147 : decode cX11_init 147 = .ok (.iload_n 2, 1) := by decide +kernel
theorem dX11_init_148 : decode cX11_init 148 = .ok (.invokestatic 58, 3) := by decide +kernel
theorem dX11_init_151 : decode cX11_init 151 = .ok (.iastore, 1) := by decide +kernel
theorem dX11_init_152 : decode cX11_init 152 = .ok (.aload_n 0, 1) := by decide +kernel
theorem dX11_init_153 : decode cX11_init 153 = .ok (.getfield 25, 3) := by decide +kernel
theorem dX11_init_156 : decode cX11_init 156 = .ok (.iload_n 2, 1) := by decide +kernel
theorem dX11_init_157 : decode cX11_init 157 = .ok (.aload_n 1, 1) := by decide +kernel
theorem dX11_init_158 : decode cX11_init 158 = .ok (.iload_n 2, 1) := by decide +kernel
theorem dX11_init_159 : decode cX11_init 159 = .ok (.invokestatic 61, 3) := by decide +kernel
theorem dX11_init_162 : decode cX11_init 162 = .ok (.iastore, 1) := by decide +kernel
theorem dX11_init_163 : decode cX11_init 163 = .ok (.aload_n 0, 1) := by decide +kernel
theorem dX11_init_164 : decode cX11_init 164 = .ok (.getfield 28, 3) := by decide +kernel
theorem dX11_init_167 : decode cX11_init 167 = .ok (.iload_n 2, 1) := by decide +kernel
theorem dX11_init_168 : decode cX11_init 168 = .ok (.aload_n 1, 1) := by decide +kernel
theorem dX11_init_169 : decode cX11_init 169 = .ok (.iload_n 2, 1) := by decide +kernel
theorem dX11_init_170 : decode cX11_init 170 = .ok (.invokestatic 63, 3) := by decide +kernel
theorem dX11_init_173 : decode cX11_init 173 = .ok (.iastore, 1) := by decide +kernel
theorem dX11_init_174 : decode cX11_init 174 = .ok (.aload_n 0, 1) := by decide +kernel
theorem dX11_init_175 : decode cX11_init 175 = .ok (.getfield 31, 3) := by decide +kernel
theorem dX11_init_178 : decode cX11_init 178 = .ok (.iload_n 2, 1) := by decide +kernel
theorem dX11_init_179 : decode cX11_init 179 = .ok (.aload_n 1, 1) := by decide +kernel
theorem dX11_init_180 : decode cX11_init 180 = .ok (.iload_n 2, 1) := by decide +kernel
theorem dX11_init_181 : decode cX11_init 181 = .ok (.invokestatic 65, 3) := by decide +kernel
theorem dX11_init_184 : decode cX11_init 184 = .ok (.iastore, 1) := by decide +kernel
theorem dX11_init_185 : decode cX11_init 185 = .ok (.iinc 2 1, 3) := by decide +kernel
theorem dX11_init_188 : decode cX11_init 188 = .ok (.goto (-52), 3) := by decide +kernel
theorem dX11_init_191 : decode cX11_init 191 = .ok (.return_, 1) := by decide +kernel
theorem dX11_with_0 : decode cX11_with 0 = .ok (.aload_n 0, 1) := by decide +kernel
theorem dX11_with_1 : decode cX11_with 1 = .ok (.arraylength, 1) := by decide +kernel
theorem dX11_with_2 : decode cX11_with 2 = .ok (.iconst 1, 1) := by decide +kernel
theorem dX11_with_3 : decode cX11_with 3 = .ok (.iadd, 1) := by decide +kernel
theorem dX11_with_4 : decode cX11_with 4 = .ok (.anewarray 34, 3) := by decide +kernel
theorem dX11_with_7 : decode cX11_with 7 = .ok (.astore_n 2, 1) := by decide +kernel
theorem dX11_with_8 : decode cX11_with 8 = .ok (.iconst 0, 1) := by decide +kernel
theorem dX11_with_9 : decode cX11_with 9 = .ok (.istore_n 3, 1) := by decide +kernel
theorem dX11_with_10 : decode cX11_with 10 = .ok (.iload_n 3, 1) := by decide +kernel
theorem dX11_with_11 : decode cX11_with 11 = .ok (.aload_n 0, 1) := by decide +kernel
theorem dX11_with_12 : decode cX11_with 12 = .ok (.arraylength, 1) := by decide +kernel
theorem dX11_with_13 : decode cX11_with 13 = .ok (.if_icmp .ge 15, 3) := by decide +kernel
theorem dX11_with_16 : decode cX11_with 16 = .ok (.aload_n 2, 1) := by decide +kernel
theorem dX11_with_17 : decode cX11_with 17 = .ok (.iload_n 3, 1) := by decide +kernel
theorem dX11_with_18 : decode cX11_with 18 = .ok (.aload_n 0, 1) := by decide +kernel
theorem dX11_with_19 : decode cX11_with 19 = .ok (.iload_n 3, 1) := by decide +kernel
theorem dX11_with_20 : decode cX11_with 20 = .ok (.aaload, 1) := by decide +kernel
theorem dX11_with_21 : decode cX11_with 21 = .ok (.aastore, 1) := by decide +kernel
theorem dX11_with_22 : decode cX11_with 22 = .ok (.iinc 3 1, 3) := by decide +kernel
theorem dX11_with_25 : decode cX11_with 25 = .ok (.goto (-15), 3) := by decide +kernel
theorem dX11_with_28 : decode cX11_with 28 = .ok (.aload_n 2, 1) := by decide +kernel
theorem dX11_with_29 : decode cX11_with 29 = .ok (.aload_n 0, 1) := by decide +kernel
theorem dX11_with_30 : decode cX11_with 30 = .ok (.arraylength, 1) := by decide +kernel
theorem dX11_with_31 : decode cX11_with 31 = .ok (.aload_n 1, 1) := by decide +kernel
theorem dX11_with_32 : decode cX11_with 32 = .ok (.aastore, 1) := by decide +kernel
theorem dX11_with_33 : decode cX11_with 33 = .ok (.aload_n 2, 1) := by decide +kernel
theorem dX11_with_34 : decode cX11_with 34 = .ok (.areturn, 1) := by decide +kernel
theorem dX11_without_0 : decode cX11_without 0 = .ok (.aload_n 0, 1) := by decide +kernel
theorem dX11_without_1 : decode cX11_without 1 = .ok (.arraylength, 1) := by decide +kernel
theorem dX11_without_2 : decode cX11_without 2 = .ok (.iconst 1, 1) := by decide +kernel
theorem dX11_without_3 : decode cX11_without 3 = .ok (.isub, 1) := by decide +kernel
theorem dX11_without_4 : decode cX11_without 4 = .ok (.anewarray 34, 3) := by decide +kernel
theorem dX11_without_7 : decode cX11_without 7 = .ok (.astore_n 2, 1) := by decide +kernel
theorem dX11_without_8 : decode cX11_without 8 = .ok (.iconst 0, 1) := by decide +kernel
theorem dX11_without_9 : decode cX11_without 9 = .ok (.istore_n 3, 1) := by decide +kernel
theorem dX11_without_10 : decode cX11_without 10 = .ok (.iload_n 3, 1) := by decide +kernel
theorem dX11_without_11 : decode cX11_without 11 = .ok (.aload_n 2, 1) := by decide +kernel
theorem dX11_without_12 : decode cX11_without 12 = .ok (.arraylength, 1) := by decide +kernel
theorem dX11_without_13 : decode cX11_without 13 = .ok (.if_icmp .ge 26, 3) := by decide +kernel
theorem dX11_without_16 : decode cX11_without 16 = .ok (.aload_n 2, 1) := by decide +kernel
theorem dX11_without_17 : decode cX11_without 17 = .ok (.iload_n 3, 1) := by decide +kernel
theorem dX11_without_18 : decode cX11_without 18 = .ok (.aload_n 0, 1) := by decide +kernel
theorem dX11_without_19 : decode cX11_without 19 = .ok (.iload_n 3, 1) := by decide +kernel
theorem dX11_without_20 : decode cX11_without 20 = .ok (.iload_n 1, 1) := by decide +kernel
theorem dX11_without_21 : decode cX11_without 21 = .ok (.if_icmp .ge 7, 3) := by decide +kernel
theorem dX11_without_24 : decode cX11_without 24 = .ok (.iload_n 3, 1) := by decide +kernel
theorem dX11_without_25 : decode cX11_without 25 = .ok (.goto 6, 3) := by decide +kernel
theorem dX11_without_28 : decode cX11_without 28 = .ok (.iload_n 3, 1) := by decide +kernel
theorem dX11_without_29 : decode cX11_without 29 = .ok (.iconst 1, 1) := by decide +kernel
theorem dX11_without_30 : decode cX11_without 30 = .ok (.iadd, 1) := by decide +kernel
theorem dX11_without_31 : decode cX11_without 31 = .ok (.aaload, 1) := by decide +kernel
theorem dX11_without_32 : decode cX11_without 32 = .ok (.aastore, 1) := by decide +kernel
theorem dX11_without_33 : decode cX11_without 33 = .ok (.iinc 3 1, 3) := by decide +kernel
theorem dX11_without_36 : decode cX11_without 36 = .ok (.goto (-26), 3) := by decide +kernel
theorem dX11_without_39 : decode cX11_without 39 = .ok (.aload_n 2, 1) := by decide +kernel
theorem dX11_without_40 : decode cX11_without 40 = .ok (.areturn, 1) := by decide +kernel
theorem dX11_find_0 : decode cX11_find 0 = .ok (.iconst 0, 1) := by decide +kernel
theorem dX11_find_1 : decode cX11_find 1 = .ok (.istore_n 3, 1) := by decide +kernel
theorem dX11_find_2 : decode cX11_find 2 = .ok (.iload_n 3, 1) := by decide +kernel
theorem dX11_find_3 : decode cX11_find 3 = .ok (.aload_n 0, 1) := by decide +kernel
theorem dX11_find_4 : decode cX11_find 4 = .ok (.getfield 35, 3) := by decide +kernel
theorem dX11_find_7 : decode cX11_find 7 = .ok (.arraylength, 1) := by decide +kernel
theorem dX11_find_8 : decode cX11_find 8 = .ok (.if_icmp .ge 35, 3) := by decide +kernel
theorem dX11_find_11 : decode cX11_find 11 = .ok (.aload_n 0, 1) := by decide +kernel
theorem dX11_find_12 : decode cX11_find 12 = .ok (.getfield 35, 3) := by decide +kernel
theorem dX11_find_15 : decode cX11_find 15 = .ok (.iload_n 3, 1) := by decide +kernel
theorem dX11_find_16 : decode cX11_find 16 = .ok (.aaload, 1) := by decide +kernel
theorem dX11_find_17 : decode cX11_find 17 = .ok (.iconst 0, 1) := by decide +kernel
theorem dX11_find_18 : decode cX11_find 18 = .ok (.iaload, 1) := by decide +kernel
theorem dX11_find_19 : decode cX11_find 19 = .ok (.iload_n 1, 1) := by decide +kernel
theorem dX11_find_20 : decode cX11_find 20 = .ok (.if_icmp .ne 17, 3) := by decide +kernel
theorem dX11_find_23 : decode cX11_find 23 = .ok (.aload_n 0, 1) := by decide +kernel
theorem dX11_find_24 : decode cX11_find 24 = .ok (.getfield 35, 3) := by decide +kernel
theorem dX11_find_27 : decode cX11_find 27 = .ok (.iload_n 3, 1) := by decide +kernel
theorem dX11_find_28 : decode cX11_find 28 = .ok (.aaload, 1) := by decide +kernel
theorem dX11_find_29 : decode cX11_find 29 = .ok (.iconst 1, 1) := by decide +kernel
theorem dX11_find_30 : decode cX11_find 30 = .ok (.iaload, 1) := by decide +kernel
theorem dX11_find_31 : decode cX11_find 31 = .ok (.iload_n 2, 1) := by decide +kernel
theorem dX11_find_32 : decode cX11_find 32 = .ok (.if_icmp .ne 5, 3) := by decide +kernel
theorem dX11_find_35 : decode cX11_find 35 = .ok (.iload_n 3, 1) := by decide +kernel
theorem dX11_find_36 : decode cX11_find 36 = .ok (.ireturn, 1) := by decide +kernel
theorem dX11_find_37 : decode cX11_find 37 = .ok (.iinc 3 1, 3) := by decide +kernel
theorem dX11_find_40 : decode cX11_find 40 = .ok (.goto (-38), 3) := by decide +kernel
theorem dX11_find_43 : decode cX11_find 43 = .ok (.iconst (-1), 1) := by decide +kernel
theorem dX11_find_44 : decode cX11_find 44 = .ok (.ireturn, 1) := by decide +kernel
theorem dX11_remembers_0 : decode cX11_remembers 0 = .ok (.aload_n 0, 1) := by decide +kernel
theorem dX11_remembers_1 : decode cX11_remembers 1 = .ok (.getfield 39, 3) := by decide +kernel
theorem dX11_remembers_4 : decode cX11_remembers 4 = .ok (.arraylength, 1) := by decide +kernel
theorem dX11_remembers_5 : decode cX11_remembers 5 = .ok (.bipush 10, 2) := by decide +kernel
theorem dX11_remembers_7 : decode cX11_remembers 7 = .ok (.if_icmp .ne 7, 3) := by decide +kernel
theorem dX11_remembers_10 : decode cX11_remembers 10 = .ok (.iconst 1, 1) := by decide +kernel
theorem dX11_remembers_11 : decode cX11_remembers 11 = .ok (.goto 4, 3) := by decide +kernel
theorem dX11_remembers_14 : decode cX11_remembers 14 = .ok (.iconst 0, 1) := by decide +kernel
theorem dX11_remembers_15 : decode cX11_remembers 15 = .ok (.istore_n 2, 1) := by decide +kernel
theorem dX11_remembers_16 : decode cX11_remembers 16 = .ok (.aload_n 0, 1) := by decide +kernel
theorem dX11_remembers_17 : decode cX11_remembers 17 = .ok (.getfield 39, 3) := by decide +kernel
theorem dX11_remembers_20 : decode cX11_remembers 20 = .ok (.arraylength, 1) := by decide +kernel
theorem dX11_remembers_21 : decode cX11_remembers 21 = .ok (.iload_n 2, 1) := by decide +kernel
theorem dX11_remembers_22 : decode cX11_remembers 22 = .ok (.isub, 1) := by decide +kernel
theorem dX11_remembers_23 : decode cX11_remembers 23 = .ok (.iconst 1, 1) := by decide +kernel
theorem dX11_remembers_24 : decode cX11_remembers 24 = .ok (.iadd, 1) := by decide +kernel
theorem dX11_remembers_25 : decode cX11_remembers 25 = .ok (.newarray .int, 2) := by decide +kernel
theorem dX11_remembers_27 : decode cX11_remembers 27 = .ok (.astore_n 3, 1) := by decide +kernel
theorem dX11_remembers_28 : decode cX11_remembers 28 = .ok (.iconst 0, 1) := by decide +kernel
theorem dX11_remembers_29 : decode cX11_remembers 29 = .ok (.istore 4, 2) := by decide +kernel
theorem dX11_remembers_31 : decode cX11_remembers 31 = .ok (.iload 4, 2) := by decide +kernel
theorem dX11_remembers_33 : decode cX11_remembers 33 = .ok (.aload_n 3, 1) := by decide +kernel
theorem dX11_remembers_34 : decode cX11_remembers 34 = .ok (.arraylength, 1) := by decide +kernel
theorem dX11_remembers_35 : decode cX11_remembers 35 = .ok (.iconst 1, 1) := by decide +kernel
theorem dX11_remembers_36 : decode cX11_remembers 36 = .ok (.isub, 1) := by decide +kernel
theorem dX11_remembers_37 : decode cX11_remembers 37 = .ok (.if_icmp .ge 22, 3) := by decide +kernel
theorem dX11_remembers_40 : decode cX11_remembers 40 = .ok (.aload_n 3, 1) := by decide +kernel
theorem dX11_remembers_41 : decode cX11_remembers 41 = .ok (.iload 4, 2) := by decide +kernel
theorem dX11_remembers_43 : decode cX11_remembers 43 = .ok (.aload_n 0, 1) := by decide +kernel
theorem dX11_remembers_44 : decode cX11_remembers 44 = .ok (.getfield 39, 3) := by decide +kernel
theorem dX11_remembers_47 : decode cX11_remembers 47 = .ok (.iload 4, 2) := by decide +kernel
theorem dX11_remembers_49 : decode cX11_remembers 49 = .ok (.iload_n 2, 1) := by decide +kernel
theorem dX11_remembers_50 : decode cX11_remembers 50 = .ok (.iadd, 1) := by decide +kernel
theorem dX11_remembers_51 : decode cX11_remembers 51 = .ok (.iaload, 1) := by decide +kernel
theorem dX11_remembers_52 : decode cX11_remembers 52 = .ok (.iastore, 1) := by decide +kernel
theorem dX11_remembers_53 : decode cX11_remembers 53 = .ok (.iinc 4 1, 3) := by decide +kernel
theorem dX11_remembers_56 : decode cX11_remembers 56 = .ok (.goto (-25), 3) := by decide +kernel
theorem dX11_remembers_59 : decode cX11_remembers 59 = .ok (.aload_n 3, 1) := by decide +kernel
theorem dX11_remembers_60 : decode cX11_remembers 60 = .ok (.aload_n 3, 1) := by decide +kernel
theorem dX11_remembers_61 : decode cX11_remembers 61 = .ok (.arraylength, 1) := by decide +kernel
theorem dX11_remembers_62 : decode cX11_remembers 62 = .ok (.iconst 1, 1) := by decide +kernel
theorem dX11_remembers_63 : decode cX11_remembers 63 = .ok (.isub, 1) := by decide +kernel
theorem dX11_remembers_64 : decode cX11_remembers 64 = .ok (.iload_n 1, 1) := by decide +kernel
theorem dX11_remembers_65 : decode cX11_remembers 65 = .ok (.iastore, 1) := by decide +kernel
theorem dX11_remembers_66 : decode cX11_remembers 66 = .ok (.aload_n 0, 1) := by decide +kernel
theorem dX11_remembers_67 : decode cX11_remembers 67 = .ok (.aload_n 3, 1) := by decide +kernel
theorem dX11_remembers_68 : decode cX11_remembers 68 = .ok (.putfield 39, 3) := by decide +kernel
theorem dX11_remembers_71 : decode cX11_remembers 71 = .ok (.aload_n 0, 1) := by decide +kernel
theorem dX11_remembers_72 : decode cX11_remembers 72 = .ok (.dup, 1) := by decide +kernel
theorem dX11_remembers_73 : decode cX11_remembers 73 = .ok (.getfield 67, 3) := by decide +kernel
theorem dX11_remembers_76 : decode cX11_remembers 76 = .ok (.iconst 1, 1) := by decide +kernel
theorem dX11_remembers_77 : decode cX11_remembers 77 = .ok (.iadd, 1) := by decide +kernel
theorem dX11_remembers_78 : decode cX11_remembers 78 = .ok (.putfield 67, 3) := by decide +kernel
theorem dX11_remembers_81 : decode cX11_remembers 81 = .ok (.return_, 1) := by decide +kernel
theorem dX11_fair_0 : decode cX11_fair 0 = .ok (.aload_n 0, 1) := by decide +kernel
theorem dX11_fair_1 : decode cX11_fair 1 = .ok (.getfield 28, 3) := by decide +kernel
theorem dX11_fair_4 : decode cX11_fair 4 = .ok (.iload_n 1, 1) := by decide +kernel
theorem dX11_fair_5 : decode cX11_fair 5 = .ok (.iaload, 1) := by decide +kernel
theorem dX11_fair_6 : decode cX11_fair 6 = .ok (.istore_n 2, 1) := by decide +kernel
theorem dX11_fair_7 : decode cX11_fair 7 = .ok (.aload_n 0, 1) := by decide +kernel
theorem dX11_fair_8 : decode cX11_fair 8 = .ok (.getfield 35, 3) := by decide +kernel
theorem dX11_fair_11 : decode cX11_fair 11 = .ok (.astore_n 3, 1) := by decide +kernel
theorem dX11_fair_12 : decode cX11_fair 12 = .ok (.aload_n 3, 1) := by decide +kernel
theorem dX11_fair_13 : decode cX11_fair 13 = .ok (.arraylength, 1) := by decide +kernel
theorem dX11_fair_14 : decode cX11_fair 14 = .ok (.istore 4, 2) := by decide +kernel
theorem dX11_fair_16 : decode cX11_fair 16 = .ok (.iconst 0, 1) := by decide +kernel
theorem dX11_fair_17 : decode cX11_fair 17 = .ok (.istore 5, 2) := by decide +kernel
theorem dX11_fair_19 : decode cX11_fair 19 = .ok (.iload 5, 2) := by decide +kernel
theorem dX11_fair_21 : decode cX11_fair 21 = .ok (.iload 4, 2) := by decide +kernel
theorem dX11_fair_23 : decode cX11_fair 23 = .ok (.if_icmp .ge 127, 3) := by decide +kernel
theorem dX11_fair_26 : decode cX11_fair 26 = .ok (.aload_n 3, 1) := by decide +kernel
theorem dX11_fair_27 : decode cX11_fair 27 = .ok (.iload 5, 2) := by decide +kernel
theorem dX11_fair_29 : decode cX11_fair 29 = .ok (.aaload, 1) := by decide +kernel
theorem dX11_fair_30 : decode cX11_fair 30 = .ok (.astore 6, 2) := by decide +kernel
theorem dX11_fair_32 : decode cX11_fair 32 = .ok (.aload 6, 2) := by decide +kernel
theorem dX11_fair_34 : decode cX11_fair 34 = .ok (.iconst 0, 1) := by decide +kernel
theorem dX11_fair_35 : decode cX11_fair 35 = .ok (.iaload, 1) := by decide +kernel
theorem dX11_fair_36 : decode cX11_fair 36 = .ok (.aload_n 0, 1) := by decide +kernel
theorem dX11_fair_37 : decode cX11_fair 37 = .ok (.getfield 22, 3) := by decide +kernel
theorem dX11_fair_40 : decode cX11_fair 40 = .ok (.iload_n 1, 1) := by decide +kernel
theorem dX11_fair_41 : decode cX11_fair 41 = .ok (.iaload, 1) := by decide +kernel
theorem dX11_fair_42 : decode cX11_fair 42 = .ok (.if_icmp .ne 102, 3) := by decide +kernel
theorem dX11_fair_45 : decode cX11_fair 45 = .ok (.aload 6, 2) := by decide +kernel
theorem dX11_fair_47 : decode cX11_fair 47 = .ok (.iconst 1, 1) := by decide +kernel
theorem dX11_fair_48 : decode cX11_fair 48 = .ok (.iaload, 1) := by decide +kernel
theorem dX11_fair_49 : decode cX11_fair 49 = .ok (.aload_n 0, 1) := by decide +kernel
theorem dX11_fair_50 : decode cX11_fair 50 = .ok (.getfield 70, 3) := by decide +kernel
theorem dX11_fair_53 : decode cX11_fair 53 = .ok (.if_icmp .gt 6, 3) := by decide +kernel
theorem dX11_fair_56 : decode cX11_fair 56 = .ok (.goto 88, 3) := by decide +kernel
theorem dX11_fair_59 : decode cX11_fair 59 = .ok (.iload_n 2, 1) := by decide +kernel
theorem dX11_fair_60 : decode cX11_fair 60 = .ok (.iconst 0, 1) := by decide +kernel
theorem dX11_fair_61 : decode cX11_fair 61 = .ok (.aload_n 0, 1) := by decide +kernel
theorem dX11_fair_62 : decode cX11_fair 62 = .ok (.getfield 7, 3) := by decide +kernel
theorem dX11_fair_65 : decode cX11_fair 65 = .ok (.aload 6, 2) := by decide +kernel
theorem dX11_fair_67 : decode cX11_fair 67 = .ok (.iconst 0, 1) := by decide +kernel
theorem dX11_fair_68 : decode cX11_fair 68 = .ok (.iaload, 1) := by decide +kernel
theorem dX11_fair_69 : decode cX11_fair 69 = .ok (.iaload, 1) := by decide +kernel
theorem dX11_fair_70 : decode cX11_fair 70 = .ok (.aload 6, 2) := by decide +kernel
theorem dX11_fair_72 : decode cX11_fair 72 = .ok (.iconst 3, 1) := by decide +kernel
theorem dX11_fair_73 : decode cX11_fair 73 = .ok (.iaload, 1) := by decide +kernel
theorem dX11_fair_74 : decode cX11_fair 74 = .ok (.isub, 1) := by decide +kernel
theorem dX11_fair_75 : decode cX11_fair 75 = .ok (.invokestatic 73, 3) := by decide +kernel
theorem dX11_fair_78 : decode cX11_fair 78 = .ok (.aload_n 0, 1) := by decide +kernel
theorem dX11_fair_79 : decode cX11_fair 79 = .ok (.getfield 13, 3) := by decide +kernel
theorem dX11_fair_82 : decode cX11_fair 82 = .ok (.aload 6, 2) := by decide +kernel
theorem dX11_fair_84 : decode cX11_fair 84 = .ok (.iconst 0, 1) := by decide +kernel
theorem dX11_fair_85 : decode cX11_fair 85 = .ok (.iaload, 1) := by decide +kernel
theorem dX11_fair_86 : decode cX11_fair 86 = .ok (.iaload, 1) := by decide +kernel
theorem dX11_fair_87 : decode cX11_fair 87 = .ok (.imul, 1) := by decide +kernel
theorem dX11_fair_88 : decode cX11_fair 88 = .ok (.bipush 100, 2) := by decide +kernel
theorem dX11_fair_90 : decode cX11_fair 90 = .ok (.idiv, 1) := by decide +kernel
theorem dX11_fair_91 : decode cX11_fair 91 = .ok (.invokestatic 79, 3) := by decide +kernel
theorem dX11_fair_94 : decode cX11_fair 94 = .ok (.istore 7, 2) := by decide +kernel
theorem dX11_fair_96 : decode cX11_fair 96 = .ok (.iload_n 2, 1) := by decide +kernel
theorem dX11_fair_97 : decode cX11_fair 97 = .ok (.iload 7, 2) := by decide +kernel
theorem dX11_fair_99 : decode cX11_fair 99 = .ok (.isub, 1) := by decide +kernel
theorem dX11_fair_100 : decode cX11_fair 100 = .ok (.istore_n 2, 1) := by decide +kernel
theorem dX11_fair_101 : decode cX11_fair 101 = .ok (.aload 6, 2) := by decide +kernel
theorem dX11_fair_103 : decode cX11_fair 103 = .ok (.iconst 3, 1) := by decide +kernel
theorem dX11_fair_104 : decode cX11_fair 104 = .ok (.dup2, 1) := by decide +kernel
theorem dX11_fair_105 : decode cX11_fair 105 = .ok (.iaload, 1) := by decide +kernel
theorem dX11_fair_106 : decode cX11_fair 106 = .ok (.iload 7, 2) := by decide +kernel
theorem dX11_fair_108 : decode cX11_fair 108 = .ok (.iadd, 1) := by decide +kernel
theorem dX11_fair_109 : decode cX11_fair 109 = .ok (.iastore, 1) := by decide +kernel
theorem dX11_fair_110 : decode cX11_fair 110 = .ok (.aload 6, 2) := by decide +kernel
theorem dX11_fair_112 : decode cX11_fair 112 = .ok (.iconst 4, 1) := by decide +kernel
theorem dX11_fair_113 : decode cX11_fair 113 = .ok (.dup2, 1) := by decide +kernel
theorem dX11_fair_114 : decode cX11_fair 114 = .ok (.iaload, 1) := by decide +kernel
theorem dX11_fair_115 : decode cX11_fair 115 = .ok (.iload 7, 2) := by decide +kernel
theorem dX11_fair_117 : decode cX11_fair 117 = .ok (.aload_n 0, 1) := by decide +kernel
theorem dX11_fair_118 : decode cX11_fair 118 = .ok (.getfield 31, 3) := by decide +kernel
theorem dX11_fair_121 : decode cX11_fair 121 = .ok (.iload_n 1, 1) := by decide +kernel
theorem dX11_fair_122 : decode cX11_fair 122 = .ok (.iaload, 1) := by decide +kernel
theorem dX11_fair_123 : decode cX11_fair 123 = .ok (.imul, 1) := by decide +kernel
theorem dX11_fair_124 : decode cX11_fair 124 = .ok (.iadd, 1) := by decide +kernel
theorem dX11_fair_125 : decode cX11_fair 125 = .ok (.iastore, 1) := by decide +kernel
theorem dX11_fair_126 : decode cX11_fair 126 = .ok (.aload_n 0, 1) := by decide +kernel
theorem dX11_fair_127 : decode cX11_fair 127 = .ok (.dup, 1) := by decide +kernel
theorem dX11_fair_128 : decode cX11_fair 128 = .ok (.getfield 82, 3) := by decide +kernel
theorem dX11_fair_131 : decode cX11_fair 131 = .ok (.iload 7, 2) := by decide +kernel
theorem dX11_fair_133 : decode cX11_fair 133 = .ok (.aload_n 0, 1) := by decide +kernel
theorem dX11_fair_134 : decode cX11_fair 134 = .ok (.getfield 31, 3) := by decide +kernel
theorem dX11_fair_137 : decode cX11_fair 137 = .ok (.iload_n 1, 1) := by decide +kernel
theorem dX11_fair_138 : decode cX11_fair 138 = .ok (.iaload, 1) := by decide +kernel
theorem dX11_fair_139 : decode cX11_fair 139 = .ok (.imul, 1) := by decide +kernel
theorem dX11_fair_140 : decode cX11_fair 140 = .ok (.iadd, 1) := by decide +kernel
theorem dX11_fair_141 : decode cX11_fair 141 = .ok (.putfield 82, 3) := by decide +kernel
theorem dX11_fair_144 : decode cX11_fair 144 = .ok (.iinc 5 1, 3) := by decide +kernel
theorem dX11_fair_147 : decode cX11_fair 147 = .ok (.goto (-128), 3) := by decide +kernel
theorem dX11_fair_150 : decode cX11_fair 150 = .ok (.return_, 1) := by decide +kernel
theorem dX11_weather_0 : decode cX11_weather 0 = .ok (.aload_n 0, 1) := by decide +kernel
theorem dX11_weather_1 : decode cX11_weather 1 = .ok (.bipush 29, 2) := by decide +kernel
theorem dX11_weather_3 : decode cX11_weather 3 = .ok (.aload_n 0, 1) := by decide +kernel
theorem dX11_weather_4 : decode cX11_weather 4 = .ok (.getfield 48, 3) := by decide +kernel
theorem dX11_weather_7 : decode cX11_weather 7 = .ok (.imul, 1) := by decide +kernel
theorem dX11_weather_8 : decode cX11_weather 8 = .ok (.bipush 11, 2) := by decide +kernel
theorem dX11_weather_10 : decode cX11_weather 10 = .ok (.iadd, 1) := by decide +kernel
theorem dX11_weather_11 : decode cX11_weather 11 = .ok (.sipush 1024, 3) := by decide +kernel
theorem dX11_weather_14 : decode cX11_weather 14 = .ok (.irem, 1) := by decide +kernel
theorem dX11_weather_15 : decode cX11_weather 15 = .ok (.putfield 48, 3) := by decide +kernel
theorem dX11_weather_18 : decode cX11_weather 18 = .ok (.aload_n 0, 1) := by decide +kernel
theorem dX11_weather_19 : decode cX11_weather 19 = .ok (.getfield 48, 3) := by decide +kernel
theorem dX11_weather_22 : decode cX11_weather 22 = .ok (.aload_n 0, 1) := by decide +kernel
theorem dX11_weather_23 : decode cX11_weather 23 = .ok (.getfield 16, 3) := by decide +kernel
theorem dX11_weather_26 : decode cX11_weather 26 = .ok (.iconst 0, 1) := by decide +kernel
theorem dX11_weather_27 : decode cX11_weather 27 = .ok (.iaload, 1) := by decide +kernel
theorem dX11_weather_28 : decode cX11_weather 28 = .ok (.aload_n 0, 1) := by decide +kernel
theorem dX11_weather_29 : decode cX11_weather 29 = .ok (.getfield 16, 3) := by decide +kernel
theorem dX11_weather_32 : decode cX11_weather 32 = .ok (.iconst 1, 1) := by decide +kernel
theorem dX11_weather_33 : decode cX11_weather 33 = .ok (.iaload, 1) := by decide +kernel
theorem dX11_weather_34 : decode cX11_weather 34 = .ok (.iadd, 1) := by decide +kernel
theorem dX11_weather_35 : decode cX11_weather 35 = .ok (.aload_n 0, 1) := by decide +kernel
theorem dX11_weather_36 : decode cX11_weather 36 = .ok (.getfield 16, 3) := by decide +kernel
theorem dX11_weather_39 : decode cX11_weather 39 = .ok (.iconst 2, 1) := by decide +kernel
theorem dX11_weather_40 : decode cX11_weather 40 = .ok (.iaload, 1) := by decide +kernel
theorem dX11_weather_41 : decode cX11_weather 41 = .ok (.iadd, 1) := by decide +kernel
theorem dX11_weather_42 : decode cX11_weather 42 = .ok (.irem, 1) := by decide +kernel
theorem dX11_weather_43 : decode cX11_weather 43 = .ok (.istore_n 2, 1) := by decide +kernel
theorem dX11_weather_44 : decode cX11_weather 44 = .ok (.iload_n 2, 1) := by decide +kernel
theorem dX11_weather_45 : decode cX11_weather 45 = .ok (.aload_n 0, 1) := by decide +kernel
theorem dX11_weather_46 : decode cX11_weather 46 = .ok (.getfield 16, 3) := by decide +kernel
theorem dX11_weather_49 : decode cX11_weather 49 = .ok (.iconst 0, 1) := by decide +kernel
theorem dX11_weather_50 : decode cX11_weather 50 = .ok (.iaload, 1) := by decide +kernel
theorem dX11_weather_51 : decode cX11_weather 51 = .ok (.if_icmp .ge 7, 3) := by decide +kernel
theorem dX11_weather_54 : decode cX11_weather 54 = .ok (.iconst 0, 1) := by decide +kernel
theorem dX11_weather_55 : decode cX11_weather 55 = .ok (.goto 25, 3) := by decide +kernel
theorem dX11_weather_58 : decode cX11_weather 58 = .ok (.iload_n 2, 1) := by decide +kernel
theorem dX11_weather_59 : decode cX11_weather 59 = .ok (.aload_n 0, 1) := by decide +kernel
theorem dX11_weather_60 : decode cX11_weather 60 = .ok (.getfield 16, 3) := by decide +kernel
theorem dX11_weather_63 : decode cX11_weather 63 = .ok (.iconst 0, 1) := by decide +kernel
theorem dX11_weather_64 : decode cX11_weather 64 = .ok (.iaload, 1) := by decide +kernel
theorem dX11_weather_65 : decode cX11_weather 65 = .ok (.aload_n 0, 1) := by decide +kernel
theorem dX11_weather_66 : decode cX11_weather 66 = .ok (.getfield 16, 3) := by decide +kernel
theorem dX11_weather_69 : decode cX11_weather 69 = .ok (.iconst 1, 1) := by decide +kernel
theorem dX11_weather_70 : decode cX11_weather 70 = .ok (.iaload, 1) := by decide +kernel
theorem dX11_weather_71 : decode cX11_weather 71 = .ok (.iadd, 1) := by decide +kernel
theorem dX11_weather_72 : decode cX11_weather 72 = .ok (.if_icmp .ge 7, 3) := by decide +kernel
theorem dX11_weather_75 : decode cX11_weather 75 = .ok (.iconst 1, 1) := by decide +kernel
theorem dX11_weather_76 : decode cX11_weather 76 = .ok (.goto 4, 3) := by decide +kernel
theorem dX11_weather_79 : decode cX11_weather 79 = .ok (.iconst 2, 1) := by decide +kernel
theorem dX11_weather_80 : decode cX11_weather 80 = .ok (.istore_n 3, 1) := by decide +kernel
theorem dX11_weather_81 : decode cX11_weather 81 = .ok (.aload_n 0, 1) := by decide +kernel
theorem dX11_weather_82 : decode cX11_weather 82 = .ok (.getfield 19, 3) := by decide +kernel
theorem dX11_weather_85 : decode cX11_weather 85 = .ok (.iload_n 3, 1) := by decide +kernel
theorem dX11_weather_86 : decode cX11_weather 86 = .ok (.dup2, 1) := by decide +kernel
theorem dX11_weather_87 : decode cX11_weather 87 = .ok (.iaload, 1) := by decide +kernel
theorem dX11_weather_88 : decode cX11_weather 88 = .ok (.iconst 1, 1) := by decide +kernel
theorem dX11_weather_89 : decode cX11_weather 89 = .ok (.iadd, 1) := by decide +kernel
theorem dX11_weather_90 : decode cX11_weather 90 = .ok (.iastore, 1) := by decide +kernel
theorem dX11_weather_91 : decode cX11_weather 91 = .ok (.aload_n 0, 1) := by decide +kernel
theorem dX11_weather_92 : decode cX11_weather 92 = .ok (.iload_n 1, 1) := by decide +kernel
theorem dX11_weather_93 : decode cX11_weather 93 = .ok (.aload_n 0, 1) := by decide +kernel
theorem dX11_weather_94 : decode cX11_weather 94 = .ok (.getfield 70, 3) := by decide +kernel
theorem dX11_weather_97 : decode cX11_weather 97 = .ok (.invokevirtual 85, 3) := by decide +kernel
theorem dX11_weather_100 : decode cX11_weather 100 = .ok (.istore 4, 2) := by decide +kernel
theorem dX11_weather_102 : decode cX11_weather 102 = .ok (.iload 4, 2) := by decide +kernel
theorem dX11_weather_104 : decode cX11_weather 104 = .ok (.ifCond .ge 4, 3) := by decide +kernel
theorem dX11_weather_107 : decode cX11_weather 107 = .ok (.return_, 1) := by decide +kernel
theorem dX11_weather_108 : decode cX11_weather 108 = .ok (.aload_n 0, 1) := by decide +kernel
theorem dX11_weather_109 : decode cX11_weather 109 = .ok (.getfield 35, 3) := by decide +kernel
theorem dX11_weather_112 : decode cX11_weather 112 = .ok (.iload 4, 2) := by decide +kernel
theorem dX11_weather_114 : decode cX11_weather 114 = .ok (.aaload, 1) := by decide +kernel
theorem dX11_weather_115 : decode cX11_weather 115 = .ok (.astore 5, 2) := by decide +kernel
theorem dX11_weather_117 : decode cX11_weather 117 = .ok (.aload_n 0, 1) := by decide +kernel
theorem dX11_weather_118 : decode cX11_weather 118 = .ok (.aload_n 0, 1) := by decide +kernel
theorem dX11_weather_119 : decode cX11_weather 119 = .ok (.getfield 35, 3) := by decide +kernel
theorem dX11_weather_122 : decode cX11_weather 122 = .ok (.iload 4, 2) := by decide +kernel
theorem dX11_weather_124 : decode cX11_weather 124 = .ok (.invokestatic 88, 3) := by decide +kernel
theorem dX11_weather_127 : decode cX11_weather 127 = .ok (.putfield 35, 3) := by decide +kernel
theorem dX11_weather_130 : decode cX11_weather 130 = .ok (.aload 5, 2) := by decide +kernel
theorem dX11_weather_132 : decode cX11_weather 132 = .ok (.iconst 2, 1) := by decide +kernel
theorem dX11_weather_133 : decode cX11_weather 133 = .ok (.iaload, 1) := by decide +kernel
theorem dX11_weather_134 : decode cX11_weather 134 = .ok (.iload_n 3, 1) := by decide +kernel
theorem dX11_weather_135 : decode cX11_weather 135 = .ok (.if_icmp .ne 33, 3) := by decide +kernel
theorem dX11_weather_138 : decode cX11_weather 138 = .ok (.aload_n 0, 1) := by decide +kernel
theorem dX11_weather_139 : decode cX11_weather 139 = .ok (.dup, 1) := by decide +kernel
theorem dX11_weather_140 : decode cX11_weather 140 = .ok (.getfield 92, 3) := by decide +kernel
theorem dX11_weather_143 : decode cX11_weather 143 = .ok (.iconst 1, 1) := by decide +kernel
theorem dX11_weather_144 : decode cX11_weather 144 = .ok (.iadd, 1) := by decide +kernel
theorem dX11_weather_145 : decode cX11_weather 145 = .ok (.putfield 92, 3) := by decide +kernel
theorem dX11_weather_148 : decode cX11_weather 148 = .ok (.aload_n 0, 1) := by decide +kernel
theorem dX11_weather_149 : decode cX11_weather 149 = .ok (.getfield 13, 3) := by decide +kernel
theorem dX11_weather_152 : decode cX11_weather 152 = .ok (.iload_n 1, 1) := by decide +kernel
theorem dX11_weather_153 : decode cX11_weather 153 = .ok (.bipush 100, 2) := by decide +kernel
theorem dX11_weather_155 : decode cX11_weather 155 = .ok (.aload_n 0, 1) := by decide +kernel
theorem dX11_weather_156 : decode cX11_weather 156 = .ok (.getfield 13, 3) := by decide +kernel
theorem dX11_weather_159 : decode cX11_weather 159 = .ok (.iload_n 1, 1) := by decide +kernel
theorem dX11_weather_160 : decode cX11_weather 160 = .ok (.iaload, 1) := by decide +kernel
theorem dX11_weather_161 : decode cX11_weather 161 = .ok (.iconst 5, 1) := by decide +kernel
theorem dX11_weather_162 : decode cX11_weather 162 = .ok (.iadd, 1) := by decide +kernel
theorem dX11_weather_163 : decode cX11_weather 163 = .ok (.invokestatic 79, 3) := by decide +kernel
theorem dX11_weather_166 : decode cX11_weather 166 = .ok (.iastore, 1) := by decide +kernel
theorem dX11_weather_167 : decode cX11_weather 167 = .ok (.return_, 1) := by decide +kernel
theorem dX11_weather_168 : decode cX11_weather 168 = .ok (.aload_n 0, 1) := by decide +kernel
theorem dX11_weather_169 : decode cX11_weather 169 = .ok (.bipush 10, 2) := by decide +kernel
theorem dX11_weather_171 : decode cX11_weather 171 = .ok (.aload_n 0, 1) := by decide +kernel
theorem dX11_weather_172 : decode cX11_weather 172 = .ok (.getfield 70, 3) := by decide +kernel
theorem dX11_weather_175 : decode cX11_weather 175 = .ok (.imul, 1) := by decide +kernel
theorem dX11_weather_176 : decode cX11_weather 176 = .ok (.iload_n 1, 1) := by decide +kernel
theorem dX11_weather_177 : decode cX11_weather 177 = .ok (.iadd, 1) := by decide +kernel
theorem dX11_weather_178 : decode cX11_weather 178 = .ok (.invokevirtual 95, 3) := by decide +kernel
theorem dX11_weather_181 : decode cX11_weather 181 = .ok (.aload_n 0, 1) := by decide +kernel
theorem dX11_weather_182 : decode cX11_weather 182 = .ok (.dup, 1) := by decide +kernel
theorem dX11_weather_183 : decode cX11_weather 183 = .ok (.getfield 82, 3) := by decide +kernel
theorem dX11_weather_186 : decode cX11_weather 186 = .ok (.iload_n 3, 1) := by decide +kernel
theorem dX11_weather_187 : decode cX11_weather 187 = .ok (.iconst 2, 1) := by decide +kernel
theorem dX11_weather_188 : decode cX11_weather 188 = .ok (.if_icmp .ne 13, 3) := by decide +kernel
theorem dX11_weather_191 : decode cX11_weather 191 = .ok (.aload 5, 2) := by decide +kernel
theorem dX11_weather_193 : decode cX11_weather 193 = .ok (.iconst 4, 1) := by decide +kernel
theorem dX11_weather_194 : decode cX11_weather 194 = .ok (.iaload, 1) := by decide +kernel
theorem dX11_weather_195 : decode cX11_weather 195 = .ok (.bipush 10, 2) := by decide +kernel
theorem dX11_weather_197 : decode cX11_weather 197 = .ok (.iadd, 1) := by decide +kernel
theorem dX11_weather_198 : decode cX11_weather 198 = .ok (.goto 9, 3) := by decide +kernel
theorem dX11_weather_201 : decode cX11_weather 201 = .ok (.aload 5, 2) := by decide +kernel
theorem dX11_weather_203 : decode cX11_weather 203 = .ok (.iconst 4, 1) := by decide +kernel
theorem dX11_weather_204 : decode cX11_weather 204 = .ok (.iaload, 1) := by decide +kernel
theorem dX11_weather_205 : decode cX11_weather 205 = .ok (.iconst 2, 1) := by decide +kernel
theorem dX11_weather_206 : decode cX11_weather 206 = .ok (.idiv, 1) := by decide +kernel
theorem dX11_weather_207 : decode cX11_weather 207 = .ok (.isub, 1) := by decide +kernel
theorem dX11_weather_208 : decode cX11_weather 208 = .ok (.putfield 82, 3) := by decide +kernel
theorem dX11_weather_211 : decode cX11_weather 211 = .ok (.aload_n 0, 1) := by decide +kernel
theorem dX11_weather_212 : decode cX11_weather 212 = .ok (.getfield 13, 3) := by decide +kernel
theorem dX11_weather_215 : decode cX11_weather 215 = .ok (.iload_n 1, 1) := by decide +kernel
theorem dX11_weather_216 : decode cX11_weather 216 = .ok (.iconst 0, 1) := by decide +kernel
theorem dX11_weather_217 : decode cX11_weather 217 = .ok (.aload_n 0, 1) := by decide +kernel
theorem dX11_weather_218 : decode cX11_weather 218 = .ok (.getfield 13, 3) := by decide +kernel
theorem dX11_weather_221 : decode cX11_weather 221 = .ok (.iload_n 1, 1) := by decide +kernel
theorem dX11_weather_222 : decode cX11_weather 222 = .ok (.iaload, 1) := by decide +kernel
theorem dX11_weather_223 : decode cX11_weather 223 = .ok (.iload_n 3, 1) := by decide +kernel
theorem dX11_weather_224 : decode cX11_weather 224 = .ok (.iconst 2, 1) := by decide +kernel
theorem dX11_weather_225 : decode cX11_weather 225 = .ok (.if_icmp .ne 8, 3) := by decide +kernel
theorem dX11_weather_228 : decode cX11_weather 228 = .ok (.bipush 20, 2) := by decide +kernel
theorem dX11_weather_230 : decode cX11_weather 230 = .ok (.goto 5, 3) := by decide +kernel
theorem dX11_weather_233 : decode cX11_weather 233 = .ok (.bipush 10, 2) := by decide +kernel
theorem dX11_weather_235 : decode cX11_weather 235 = .ok (.isub, 1) := by decide +kernel
theorem dX11_weather_236 : decode cX11_weather 236 = .ok (.invokestatic 73, 3) := by decide +kernel
theorem dX11_weather_239 : decode cX11_weather 239 = .ok (.iastore, 1) := by decide +kernel
theorem dX11_weather_240 : decode cX11_weather 240 = .ok (.return_, 1) := by decide +kernel
theorem dX11_passes_0 : decode cX11_passes 0 = .ok (.aload_n 0, 1) := by decide +kernel
theorem dX11_passes_1 : decode cX11_passes 1 = .ok (.dup, 1) := by decide +kernel
theorem dX11_passes_2 : decode cX11_passes 2 = .ok (.getfield 70, 3) := by decide +kernel
theorem dX11_passes_5 : decode cX11_passes 5 = .ok (.iconst 1, 1) := by decide +kernel
theorem dX11_passes_6 : decode cX11_passes 6 = .ok (.iadd, 1) := by decide +kernel
theorem dX11_passes_7 : decode cX11_passes 7 = .ok (.putfield 70, 3) := by decide +kernel
theorem dX11_passes_10 : decode cX11_passes 10 = .ok (.iconst 0, 1) := by decide +kernel
theorem dX11_passes_11 : decode cX11_passes 11 = .ok (.istore_n 1, 1) := by decide +kernel
theorem dX11_passes_12 : decode cX11_passes 12 = .ok (.iload_n 1, 1) := by decide +kernel
theorem dX11_passes_13 : decode cX11_passes 13 = .ok (.iconst 2, 1) := by decide +kernel
theorem dX11_passes_14 : decode cX11_passes 14 = .ok (.if_icmp .ge 30, 3) := by decide +kernel
theorem dX11_passes_17 : decode cX11_passes 17 = .ok (.aload_n 0, 1) := by decide +kernel
theorem dX11_passes_18 : decode cX11_passes 18 = .ok (.getfield 70, 3) := by decide +kernel
theorem dX11_passes_21 : decode cX11_passes 21 = .ok (.iload_n 1, 1) := by decide +kernel
theorem dX11_passes_22 : decode cX11_passes 22 = .ok (.iadd, 1) := by decide +kernel
theorem dX11_passes_23 : decode cX11_passes 23 = .ok (.aload_n 0, 1) := by decide +kernel
theorem dX11_passes_24 : decode cX11_passes 24 = .ok (.getfield 25, 3) := by decide +kernel
theorem dX11_passes_27 : decode cX11_passes 27 = .ok (.iload_n 1, 1) := by decide +kernel
theorem dX11_passes_28 : decode cX11_passes 28 = .ok (.iaload, 1) := by decide +kernel
theorem dX11_passes_29 : decode cX11_passes 29 = .ok (.irem, 1) := by decide +kernel
theorem dX11_passes_30 : decode cX11_passes 30 = .ok (.ifCond .ne 8, 3) := by decide +kernel
theorem dX11_passes_33 : decode cX11_passes 33 = .ok (.aload_n 0, 1) := by decide +kernel
theorem dX11_passes_34 : decode cX11_passes 34 = .ok (.iload_n 1, 1) := by decide +kernel
theorem dX11_passes_35 : decode cX11_passes 35 = .ok (.invokevirtual 99, 3) := by decide +kernel
theorem dX11_passes_38 : decode cX11_passes 38 = .ok (.iinc 1 1, 3) := by decide +kernel
theorem dX11_passes_41 : decode cX11_passes 41 = .ok (.goto (-29), 3) := by decide +kernel
theorem dX11_passes_44 : decode cX11_passes 44 = .ok (.iconst 0, 1) := by decide +kernel
theorem dX11_passes_45 : decode cX11_passes 45 = .ok (.istore_n 1, 1) := by decide +kernel
theorem dX11_passes_46 : decode cX11_passes 46 = .ok (.iload_n 1, 1) := by decide +kernel
theorem dX11_passes_47 : decode cX11_passes 47 = .ok (.iconst 3, 1) := by decide +kernel
theorem dX11_passes_48 : decode cX11_passes 48 = .ok (.if_icmp .ge 14, 3) := by decide +kernel
theorem dX11_passes_51 : decode cX11_passes 51 = .ok (.aload_n 0, 1) := by decide +kernel
theorem dX11_passes_52 : decode cX11_passes 52 = .ok (.iload_n 1, 1) := by decide +kernel
theorem dX11_passes_53 : decode cX11_passes 53 = .ok (.invokevirtual 102, 3) := by decide +kernel
theorem dX11_passes_56 : decode cX11_passes 56 = .ok (.iinc 1 1, 3) := by decide +kernel
theorem dX11_passes_59 : decode cX11_passes 59 = .ok (.goto (-13), 3) := by decide +kernel
theorem dX11_passes_62 : decode cX11_passes 62 = .ok (.aload_n 0, 1) := by decide +kernel
theorem dX11_passes_63 : decode cX11_passes 63 = .ok (.getfield 70, 3) := by decide +kernel
theorem dX11_passes_66 : decode cX11_passes 66 = .ok (.bipush 12, 2) := by decide +kernel
theorem dX11_passes_68 : decode cX11_passes 68 = .ok (.irem, 1) := by decide +kernel
theorem dX11_passes_69 : decode cX11_passes 69 = .ok (.ifCond .eq 4, 3) := by decide +kernel
theorem dX11_passes_72 : decode cX11_passes 72 = .ok (.return_, 1) := by decide +kernel
theorem dX11_passes_73 : decode cX11_passes 73 = .ok (.aload_n 0, 1) := by decide +kernel
theorem dX11_passes_74 : decode cX11_passes 74 = .ok (.getfield 19, 3) := by decide +kernel
theorem dX11_passes_77 : decode cX11_passes 77 = .ok (.iconst 0, 1) := by decide +kernel
theorem dX11_passes_78 : decode cX11_passes 78 = .ok (.iaload, 1) := by decide +kernel
theorem dX11_passes_79 : decode cX11_passes 79 = .ok (.aload_n 0, 1) := by decide +kernel
theorem dX11_passes_80 : decode cX11_passes 80 = .ok (.getfield 19, 3) := by decide +kernel
theorem dX11_passes_83 : decode cX11_passes 83 = .ok (.iconst 1, 1) := by decide +kernel
theorem dX11_passes_84 : decode cX11_passes 84 = .ok (.iaload, 1) := by decide +kernel
theorem dX11_passes_85 : decode cX11_passes 85 = .ok (.if_icmp .lt 22, 3) := by decide +kernel
theorem dX11_passes_88 : decode cX11_passes 88 = .ok (.aload_n 0, 1) := by decide +kernel
theorem dX11_passes_89 : decode cX11_passes 89 = .ok (.getfield 19, 3) := by decide +kernel
theorem dX11_passes_92 : decode cX11_passes 92 = .ok (.iconst 0, 1) := by decide +kernel
theorem dX11_passes_93 : decode cX11_passes 93 = .ok (.iaload, 1) := by decide +kernel
theorem dX11_passes_94 : decode cX11_passes 94 = .ok (.aload_n 0, 1) := by decide +kernel
theorem dX11_passes_95 : decode cX11_passes 95 = .ok (.getfield 19, 3) := by decide +kernel
theorem dX11_passes_98 : decode cX11_passes 98 = .ok (.iconst 2, 1) := by decide +kernel
theorem dX11_passes_99 : decode cX11_passes 99 = .ok (.iaload, 1) := by decide +kernel
theorem dX11_passes_100 : decode cX11_passes 100 = .ok (.if_icmp .lt 7, 3) := by decide +kernel
theorem dX11_passes_103 : decode cX11_passes 103 = .ok (.iconst 0, 1) := by decide +kernel
theorem dX11_passes_104 : decode cX11_passes 104 = .ok (.goto 23, 3) := by decide +kernel
theorem dX11_passes_107 : decode cX11_passes 107 = .ok (.aload_n 0, 1) := by decide +kernel
theorem dX11_passes_108 : decode cX11_passes 108 = .ok (.getfield 19, 3) := by decide +kernel
theorem dX11_passes_111 : decode cX11_passes 111 = .ok (.iconst 1, 1) := by decide +kernel
theorem dX11_passes_112 : decode cX11_passes 112 = .ok (.iaload, 1) := by decide +kernel
theorem dX11_passes_113 : decode cX11_passes 113 = .ok (.aload_n 0, 1) := by decide +kernel
theorem dX11_passes_114 : decode cX11_passes 114 = .ok (.getfield 19, 3) := by decide +kernel
theorem dX11_passes_117 : decode cX11_passes 117 = .ok (.iconst 2, 1) := by decide +kernel
theorem dX11_passes_118 : decode cX11_passes 118 = .ok (.iaload, 1) := by decide +kernel
theorem dX11_passes_119 : decode cX11_passes 119 = .ok (.if_icmp .lt 7, 3) := by decide +kernel
theorem dX11_passes_122 : decode cX11_passes 122 = .ok (.iconst 1, 1) := by decide +kernel
theorem dX11_passes_123 : decode cX11_passes 123 = .ok (.goto 4, 3) := by decide +kernel
theorem dX11_passes_126 : decode cX11_passes 126 = .ok (.iconst 2, 1) := by decide +kernel
theorem dX11_passes_127 : decode cX11_passes 127 = .ok (.istore_n 1, 1) := by decide +kernel
theorem dX11_passes_128 : decode cX11_passes 128 = .ok (.aload_n 0, 1) := by decide +kernel
theorem dX11_passes_129 : decode cX11_passes 129 = .ok (.getfield 19, 3) := by decide +kernel
theorem dX11_passes_132 : decode cX11_passes 132 = .ok (.iconst 2, 1) := by decide +kernel
theorem dX11_passes_133 : decode cX11_passes 133 = .ok (.iaload, 1) := by decide +kernel
theorem dX11_passes_134 : decode cX11_passes 134 = .ok (.aload_n 0, 1) := by decide +kernel
theorem dX11_passes_135 : decode cX11_passes 135 = .ok (.getfield 19, 3) := by decide +kernel
theorem dX11_passes_138 : decode cX11_passes 138 = .ok (.iconst 1, 1) := by decide +kernel
theorem dX11_passes_139 : decode cX11_passes 139 = .ok (.iaload, 1) := by decide +kernel
theorem dX11_passes_140 : decode cX11_passes 140 = .ok (.if_icmp .gt 22, 3) := by decide +kernel
theorem dX11_passes_143 : decode cX11_passes 143 = .ok (.aload_n 0, 1) := by decide +kernel
theorem dX11_passes_144 : decode cX11_passes 144 = .ok (.getfield 19, 3) := by decide +kernel
theorem dX11_passes_147 : decode cX11_passes 147 = .ok (.iconst 2, 1) := by decide +kernel
theorem dX11_passes_148 : decode cX11_passes 148 = .ok (.iaload, 1) := by decide +kernel
theorem dX11_passes_149 : decode cX11_passes 149 = .ok (.aload_n 0, 1) := by decide +kernel
theorem dX11_passes_150 : decode cX11_passes 150 = .ok (.getfield 19, 3) := by decide +kernel
theorem dX11_passes_153 : decode cX11_passes 153 = .ok (.iconst 0, 1) := by decide +kernel
theorem dX11_passes_154 : decode cX11_passes 154 = .ok (.iaload, 1) := by decide +kernel
theorem dX11_passes_155 : decode cX11_passes 155 = .ok (.if_icmp .gt 7, 3) := by decide +kernel
theorem dX11_passes_158 : decode cX11_passes 158 = .ok (.iconst 2, 1) := by decide +kernel
theorem dX11_passes_159 : decode cX11_passes 159 = .ok (.goto 23, 3) := by decide +kernel
theorem dX11_passes_162 : decode cX11_passes 162 = .ok (.aload_n 0, 1) := by decide +kernel
theorem dX11_passes_163 : decode cX11_passes 163 = .ok (.getfield 19, 3) := by decide +kernel
theorem dX11_passes_166 : decode cX11_passes 166 = .ok (.iconst 1, 1) := by decide +kernel
theorem dX11_passes_167 : decode cX11_passes 167 = .ok (.iaload, 1) := by decide +kernel
theorem dX11_passes_168 : decode cX11_passes 168 = .ok (.aload_n 0, 1) := by decide +kernel
theorem dX11_passes_169 : decode cX11_passes 169 = .ok (.getfield 19, 3) := by decide +kernel
theorem dX11_passes_172 : decode cX11_passes 172 = .ok (.iconst 0, 1) := by decide +kernel
theorem dX11_passes_173 : decode cX11_passes 173 = .ok (.iaload, 1) := by decide +kernel
theorem dX11_passes_174 : decode cX11_passes 174 = .ok (.if_icmp .gt 7, 3) := by decide +kernel
theorem dX11_passes_177 : decode cX11_passes 177 = .ok (.iconst 1, 1) := by decide +kernel
theorem dX11_passes_178 : decode cX11_passes 178 = .ok (.goto 4, 3) := by decide +kernel
theorem dX11_passes_181 : decode cX11_passes 181 = .ok (.iconst 0, 1) := by decide +kernel
theorem dX11_passes_182 : decode cX11_passes 182 = .ok (.istore_n 2, 1) := by decide +kernel
theorem dX11_passes_183 : decode cX11_passes 183 = .ok (.aload_n 0, 1) := by decide +kernel
theorem dX11_passes_184 : decode cX11_passes 184 = .ok (.getfield 16, 3) := by decide +kernel
theorem dX11_passes_187 : decode cX11_passes 187 = .ok (.iload_n 1, 1) := by decide +kernel
theorem dX11_passes_188 : decode cX11_passes 188 = .ok (.bipush 20, 2) := by decide +kernel
theorem dX11_passes_190 : decode cX11_passes 190 = .ok (.aload_n 0, 1) := by decide +kernel
theorem dX11_passes_191 : decode cX11_passes 191 = .ok (.getfield 16, 3) := by decide +kernel
theorem dX11_passes_194 : decode cX11_passes 194 = .ok (.iload_n 1, 1) := by decide +kernel
theorem dX11_passes_195 : decode cX11_passes 195 = .ok (.iaload, 1) := by decide +kernel
theorem dX11_passes_196 : decode cX11_passes 196 = .ok (.iconst 1, 1) := by decide +kernel
theorem dX11_passes_197 : decode cX11_passes 197 = .ok (.iadd, 1) := by decide +kernel
theorem dX11_passes_198 : decode cX11_passes 198 = .ok (.invokestatic 79, 3) := by decide +kernel
theorem dX11_passes_201 : decode cX11_passes 201 = .ok (.iastore, 1) := by decide +kernel
theorem dX11_passes_202 : decode cX11_passes 202 = .ok (.aload_n 0, 1) := by decide +kernel
theorem dX11_passes_203 : decode cX11_passes 203 = .ok (.getfield 16, 3) := by decide +kernel
theorem dX11_passes_206 : decode cX11_passes 206 = .ok (.iload_n 2, 1) := by decide +kernel
theorem dX11_passes_207 : decode cX11_passes 207 = .ok (.iconst 0, 1) := by decide +kernel
theorem dX11_passes_208 : decode cX11_passes 208 = .ok (.aload_n 0, 1) := by decide +kernel
theorem dX11_passes_209 : decode cX11_passes 209 = .ok (.getfield 16, 3) := by decide +kernel
theorem dX11_passes_212 : decode cX11_passes 212 = .ok (.iload_n 2, 1) := by decide +kernel
theorem dX11_passes_213 : decode cX11_passes 213 = .ok (.iaload, 1) := by decide +kernel
theorem dX11_passes_214 : decode cX11_passes 214 = .ok (.iconst 1, 1) := by decide +kernel
theorem dX11_passes_215 : decode cX11_passes 215 = .ok (.isub, 1) := by decide +kernel
theorem dX11_passes_216 : decode cX11_passes 216 = .ok (.invokestatic 73, 3) := by decide +kernel
theorem dX11_passes_219 : decode cX11_passes 219 = .ok (.iastore, 1) := by decide +kernel
theorem dX11_passes_220 : decode cX11_passes 220 = .ok (.iconst 0, 1) := by decide +kernel
theorem dX11_passes_221 : decode cX11_passes 221 = .ok (.istore_n 3, 1) := by decide +kernel
theorem dX11_passes_222 : decode cX11_passes 222 = .ok (.iload_n 3, 1) := by decide +kernel
theorem dX11_passes_223 : decode cX11_passes 223 = .ok (.iconst 3, 1) := by decide +kernel
theorem dX11_passes_224 : decode cX11_passes 224 = .ok (.if_icmp .ge 16, 3) := by decide +kernel
theorem dX11_passes_227 : decode cX11_passes 227 = .ok (.aload_n 0, 1) := by decide +kernel
theorem dX11_passes_228 : decode cX11_passes 228 = .ok (.getfield 19, 3) := by decide +kernel
theorem dX11_passes_231 : decode cX11_passes 231 = .ok (.iload_n 3, 1) := by decide +kernel
theorem dX11_passes_232 : decode cX11_passes 232 = .ok (.iconst 0, 1) := by decide +kernel
theorem dX11_passes_233 : decode cX11_passes 233 = .ok (.iastore, 1) := by decide +kernel
theorem dX11_passes_234 : decode cX11_passes 234 = .ok (.iinc 3 1, 3) := by decide +kernel
theorem dX11_passes_237 : decode cX11_passes 237 = .ok (.goto (-15), 3) := by decide +kernel
theorem dX11_passes_240 : decode cX11_passes 240 = .ok (.return_, 1) := by decide +kernel
theorem dX11_retracts_0 : decode cX11_retracts 0 = .ok (.iconst 0, 1) := by decide +kernel
theorem dX11_retracts_1 : decode cX11_retracts 1 = .ok (.istore_n 2, 1) := by decide +kernel
theorem dX11_retracts_2 : decode cX11_retracts 2 = .ok (.aload_n 0, 1) := by decide +kernel
theorem dX11_retracts_3 : decode cX11_retracts 3 = .ok (.getfield 35, 3) := by decide +kernel
theorem dX11_retracts_6 : decode cX11_retracts 6 = .ok (.arraylength, 1) := by decide +kernel
theorem dX11_retracts_7 : decode cX11_retracts 7 = .ok (.iconst 4, 1) := by decide +kernel
theorem dX11_retracts_8 : decode cX11_retracts 8 = .ok (.iload_n 1, 1) := by decide +kernel
theorem dX11_retracts_9 : decode cX11_retracts 9 = .ok (.imul, 1) := by decide +kernel
theorem dX11_retracts_10 : decode cX11_retracts 10 = .ok (.iconst 4, 1) := by decide +kernel
theorem dX11_retracts_11 : decode cX11_retracts 11 = .ok (.iadd, 1) := by decide +kernel
theorem dX11_retracts_12 : decode cX11_retracts 12 = .ok (.invokestatic 79, 3) := by decide +kernel
theorem dX11_retracts_15 : decode cX11_retracts 15 = .ok (.istore_n 3, 1) := by decide +kernel
theorem dX11_retracts_16 : decode cX11_retracts 16 = .ok (.iconst 4, 1) := by decide +kernel
theorem dX11_retracts_17 : decode cX11_retracts 17 = .ok (.iload_n 1, 1) := by decide +kernel
theorem dX11_retracts_18 : decode cX11_retracts 18 = .ok (.imul, 1) := by decide +kernel
theorem dX11_retracts_19 : decode cX11_retracts 19 = .ok (.istore 4, 2) := by decide +kernel
theorem dX11_retracts_21 : decode cX11_retracts 21 = .ok (.iload 4, 2) := by decide +kernel
theorem dX11_retracts_23 : decode cX11_retracts 23 = .ok (.iload_n 3, 1) := by decide +kernel
theorem dX11_retracts_24 : decode cX11_retracts 24 = .ok (.if_icmp .ge 21, 3) := by decide +kernel
theorem dX11_retracts_27 : decode cX11_retracts 27 = .ok (.iload_n 2, 1) := by decide +kernel
theorem dX11_retracts_28 : decode cX11_retracts 28 = .ok (.aload_n 0, 1) := by decide +kernel
theorem dX11_retracts_29 : decode cX11_retracts 29 = .ok (.getfield 35, 3) := by decide +kernel
theorem dX11_retracts_32 : decode cX11_retracts 32 = .ok (.iload 4, 2) := by decide +kernel
theorem dX11_retracts_34 : decode cX11_retracts 34 = .ok (.aaload, 1) := by decide +kernel
theorem dX11_retracts_35 : decode cX11_retracts 35 = .ok (.iconst 4, 1) := by decide +kernel
theorem dX11_retracts_36 : decode cX11_retracts 36 = .ok (.iaload, 1) := by decide +kernel
theorem dX11_retracts_37 : decode cX11_retracts 37 = .ok (.iadd, 1) := by decide +kernel
theorem dX11_retracts_38 : decode cX11_retracts 38 = .ok (.istore_n 2, 1) := by decide +kernel
theorem dX11_retracts_39 : decode cX11_retracts 39 = .ok (.iinc 4 1, 3) := by decide +kernel
theorem dX11_retracts_42 : decode cX11_retracts 42 = .ok (.goto (-21), 3) := by decide +kernel
theorem dX11_retracts_45 : decode cX11_retracts 45 = .ok (.iload_n 2, 1) := by decide +kernel
theorem dX11_retracts_46 : decode cX11_retracts 46 = .ok (.aload_n 0, 1) := by decide +kernel
theorem dX11_retracts_47 : decode cX11_retracts 47 = .ok (.getfield 82, 3) := by decide +kernel
theorem dX11_retracts_50 : decode cX11_retracts 50 = .ok (.if_icmp .le 6, 3) := by decide +kernel
theorem dX11_retracts_53 : decode cX11_retracts 53 = .ok (.bipush (-9), 2) := by decide +kernel
theorem dX11_retracts_55 : decode cX11_retracts 55 = .ok (.ireturn, 1) := by decide +kernel
theorem dX11_retracts_56 : decode cX11_retracts 56 = .ok (.aload_n 0, 1) := by decide +kernel
theorem dX11_retracts_57 : decode cX11_retracts 57 = .ok (.dup, 1) := by decide +kernel
theorem dX11_retracts_58 : decode cX11_retracts 58 = .ok (.getfield 82, 3) := by decide +kernel
theorem dX11_retracts_61 : decode cX11_retracts 61 = .ok (.iload_n 2, 1) := by decide +kernel
theorem dX11_retracts_62 : decode cX11_retracts 62 = .ok (.isub, 1) := by decide +kernel
theorem dX11_retracts_63 : decode cX11_retracts 63 = .ok (.putfield 82, 3) := by decide +kernel
theorem dX11_retracts_66 : decode cX11_retracts 66 = .ok (.iload_n 3, 1) := by decide +kernel
theorem dX11_retracts_67 : decode cX11_retracts 67 = .ok (.iconst 1, 1) := by decide +kernel
theorem dX11_retracts_68 : decode cX11_retracts 68 = .ok (.isub, 1) := by decide +kernel
theorem dX11_retracts_69 : decode cX11_retracts 69 = .ok (.istore 4, 2) := by decide +kernel
theorem dX11_retracts_71 : decode cX11_retracts 71 = .ok (.iload 4, 2) := by decide +kernel
theorem dX11_retracts_73 : decode cX11_retracts 73 = .ok (.iconst 4, 1) := by decide +kernel
theorem dX11_retracts_74 : decode cX11_retracts 74 = .ok (.iload_n 1, 1) := by decide +kernel
theorem dX11_retracts_75 : decode cX11_retracts 75 = .ok (.imul, 1) := by decide +kernel
theorem dX11_retracts_76 : decode cX11_retracts 76 = .ok (.if_icmp .lt 66, 3) := by decide +kernel
theorem dX11_retracts_79 : decode cX11_retracts 79 = .ok (.aload_n 0, 1) := by decide +kernel
theorem dX11_retracts_80 : decode cX11_retracts 80 = .ok (.getfield 13, 3) := by decide +kernel
theorem dX11_retracts_83 : decode cX11_retracts 83 = .ok (.aload_n 0, 1) := by decide +kernel
theorem dX11_retracts_84 : decode cX11_retracts 84 = .ok (.getfield 35, 3) := by decide +kernel
theorem dX11_retracts_87 : decode cX11_retracts 87 = .ok (.iload 4, 2) := by decide +kernel
theorem dX11_retracts_89 : decode cX11_retracts 89 = .ok (.aaload, 1) := by decide +kernel
theorem dX11_retracts_90 : decode cX11_retracts 90 = .ok (.iconst 0, 1) := by decide +kernel
theorem dX11_retracts_91 : decode cX11_retracts 91 = .ok (.iaload, 1) := by decide +kernel
theorem dX11_retracts_92 : decode cX11_retracts 92 = .ok (.iconst 0, 1) := by decide +kernel
theorem dX11_retracts_93 : decode cX11_retracts 93 = .ok (.aload_n 0, 1) := by decide +kernel
theorem dX11_retracts_94 : decode cX11_retracts 94 = .ok (.getfield 13, 3) := by decide +kernel
theorem dX11_retracts_97 : decode cX11_retracts 97 = .ok (.aload_n 0, 1) := by decide +kernel
theorem dX11_retracts_98 : decode cX11_retracts 98 = .ok (.getfield 35, 3) := by decide +kernel
theorem dX11_retracts_101 : decode cX11_retracts 101 = .ok (.iload 4, 2) := by decide +kernel
theorem dX11_retracts_103 : decode cX11_retracts 103 = .ok (.aaload, 1) := by decide +kernel
theorem dX11_retracts_104 : decode cX11_retracts 104 = .ok (.iconst 0, 1) := by decide +kernel
theorem dX11_retracts_105 : decode cX11_retracts 105 = .ok (.iaload, 1) := by decide +kernel
theorem dX11_retracts_106 : decode cX11_retracts 106 = .ok (.iaload, 1) := by decide +kernel
theorem dX11_retracts_107 : decode cX11_retracts 107 = .ok (.iconst 5, 1) := by decide +kernel
theorem dX11_retracts_108 : decode cX11_retracts 108 = .ok (.isub, 1) := by decide +kernel
theorem dX11_retracts_109 : decode cX11_retracts 109 = .ok (.invokestatic 73, 3) := by decide +kernel
theorem dX11_retracts_112 : decode cX11_retracts 112 = .ok (.iastore, 1) := by decide +kernel
theorem dX11_retracts_113 : decode cX11_retracts 113 = .ok (.aload_n 0, 1) := by decide +kernel
theorem dX11_retracts_114 : decode cX11_retracts 114 = .ok (.dup, 1) := by decide +kernel
theorem dX11_retracts_115 : decode cX11_retracts 115 = .ok (.getfield 105, 3) := by decide +kernel
theorem dX11_retracts_118 : decode cX11_retracts 118 = .ok (.iconst 1, 1) := by decide +kernel
theorem dX11_retracts_119 : decode cX11_retracts 119 = .ok (.iadd, 1) := by decide +kernel
theorem dX11_retracts_120 : decode cX11_retracts 120 = .ok (.putfield 105, 3) := by decide +kernel
theorem dX11_retracts_123 : decode cX11_retracts 123 = .ok (.aload_n 0, 1) := by decide +kernel
theorem dX11_retracts_124 : decode cX11_retracts 124 = .ok (.aload_n 0, 1) := by decide +kernel
theorem dX11_retracts_125 : decode cX11_retracts 125 = .ok (.getfield 35, 3) := by decide +kernel
theorem dX11_retracts_128 : decode cX11_retracts 128 = .ok (.iload 4, 2) := by decide +kernel
theorem dX11_retracts_130 : decode cX11_retracts 130 = .ok (.invokestatic 88, 3) := by decide +kernel
theorem dX11_retracts_133 : decode cX11_retracts 133 = .ok (.putfield 35, 3) := by decide +kernel
theorem dX11_retracts_136 : decode cX11_retracts 136 = .ok (.iinc 4 (-1), 3) := by decide +kernel
theorem dX11_retracts_139 : decode cX11_retracts 139 = .ok (.goto (-68), 3) := by decide +kernel
theorem dX11_retracts_142 : decode cX11_retracts 142 = .ok (.iload_n 2, 1) := by decide +kernel
theorem dX11_retracts_143 : decode cX11_retracts 143 = .ok (.ireturn, 1) := by decide +kernel
theorem dX11_acts_0 : decode cX11_acts 0 = .ok (.iload_n 1, 1) := by decide +kernel
theorem dX11_acts_1 : decode cX11_acts 1 = .ok (.bipush 32, 2) := by decide +kernel
theorem dX11_acts_3 : decode cX11_acts 3 = .ok (.idiv, 1) := by decide +kernel
theorem dX11_acts_4 : decode cX11_acts 4 = .ok (.istore_n 2, 1) := by decide +kernel
theorem dX11_acts_5 : decode cX11_acts 5 = .ok (.iload_n 2, 1) := by decide +kernel
theorem dX11_acts_6 : decode cX11_acts 6 = .ok (.bipush 16, 2) := by decide +kernel
theorem dX11_acts_8 : decode cX11_acts 8 = .ok (.idiv, 1) := by decide +kernel
theorem dX11_acts_9 : decode cX11_acts 9 = .ok (.istore_n 3, 1) := by decide +kernel
theorem dX11_acts_10 : decode cX11_acts 10 = .ok (.aload_n 0, 1) := by decide +kernel
theorem dX11_acts_11 : decode cX11_acts 11 = .ok (.getfield 35, 3) := by decide +kernel
theorem dX11_acts_14 : decode cX11_acts 14 = .ok (.arraylength, 1) := by decide +kernel
theorem dX11_acts_15 : decode cX11_acts 15 = .ok (.iconst 3, 1) := by decide +kernel
theorem dX11_acts_16 : decode cX11_acts 16 = .ok (.iadd, 1) := by decide +kernel
theorem dX11_acts_17 : decode cX11_acts 17 = .ok (.iconst 4, 1) := by decide +kernel
theorem dX11_acts_18 : decode cX11_acts 18 = .ok (.idiv, 1) := by decide +kernel
theorem dX11_acts_19 : decode cX11_acts 19 = .ok (.istore 4, 2) := by decide +kernel
theorem dX11_acts_21 : decode cX11_acts 21 = .ok (.iload_n 1, 1) := by decide +kernel
theorem dX11_acts_22 : decode cX11_acts 22 = .ok (.bipush 32, 2) := by decide +kernel
theorem dX11_acts_24 : decode cX11_acts 24 = .ok (.irem, 1) := by decide +kernel
theorem dX11_acts_25 : decode cX11_acts 25 = .ok (.bipush 12, 2) := by decide +kernel
theorem dX11_acts_27 : decode cX11_acts 27 = .ok (.if_icmp .lt 20, 3) := by decide +kernel
theorem dX11_acts_30 : decode cX11_acts 30 = .ok (.iload_n 1, 1) := by decide +kernel
theorem dX11_acts_31 : decode cX11_acts 31 = .ok (.bipush 32, 2) := by decide +kernel
theorem dX11_acts_33 : decode cX11_acts 33 = .ok (.irem, 1) := by decide +kernel
theorem dX11_acts_34 : decode cX11_acts 34 = .ok (.bipush 15, 2) := by decide +kernel
theorem dX11_acts_36 : decode cX11_acts 36 = .ok (.if_icmp .ge 11, 3) := by decide +kernel
theorem dX11_acts_39 : decode cX11_acts 39 = .ok (.iload 4, 2) := by decide +kernel
theorem dX11_acts_41 : decode cX11_acts 41 = .ok (.ifCond .ne 6, 3) := by decide +kernel
theorem dX11_acts_44 : decode cX11_acts 44 = .ok (.bipush (-8), 2) := by decide +kernel
theorem dX11_acts_46 : decode cX11_acts 46 = .ok (.ireturn, 1) := by decide +kernel
theorem dX11_acts_47 : decode cX11_acts 47 = .ok (.iload_n 1, 1) := by decide +kernel
theorem dX11_acts_48 : decode cX11_acts 48 = .ok (.bipush 32, 2) := by decide +kernel
theorem dX11_acts_50 : decode cX11_acts 50 = .ok (.irem, 1) := by decide +kernel
theorem dX11_acts_51 : decode cX11_acts 51 = .ok (.tableswitch 320 0 18 #[89, 89, 89, 89, 89, 89, 89, 89, 89, 89, 89, 89, 200, 200, 200, 209, 234, 261, 261], 89) := by decide +kernel
theorem dX11_acts_140 : decode cX11_acts 140 = .ok (.aload_n 0, 1) := by decide +kernel
theorem dX11_acts_141 : decode cX11_acts 141 = .ok (.getfield 70, 3) := by decide +kernel
theorem dX11_acts_144 : decode cX11_acts 144 = .ok (.iload_n 3, 1) := by decide +kernel
theorem dX11_acts_145 : decode cX11_acts 145 = .ok (.bipush 36, 2) := by decide +kernel
theorem dX11_acts_147 : decode cX11_acts 147 = .ok (.irem, 1) := by decide +kernel
theorem dX11_acts_148 : decode cX11_acts 148 = .ok (.iadd, 1) := by decide +kernel
theorem dX11_acts_149 : decode cX11_acts 149 = .ok (.iconst 2, 1) := by decide +kernel
theorem dX11_acts_150 : decode cX11_acts 150 = .ok (.isub, 1) := by decide +kernel
theorem dX11_acts_151 : decode cX11_acts 151 = .ok (.istore 6, 2) := by decide +kernel
theorem dX11_acts_153 : decode cX11_acts 153 = .ok (.iload 6, 2) := by decide +kernel
theorem dX11_acts_155 : decode cX11_acts 155 = .ok (.aload_n 0, 1) := by decide +kernel
theorem dX11_acts_156 : decode cX11_acts 156 = .ok (.getfield 70, 3) := by decide +kernel
theorem dX11_acts_159 : decode cX11_acts 159 = .ok (.if_icmp .le 37, 3) := by decide +kernel
theorem dX11_acts_162 : decode cX11_acts 162 = .ok (.iload 6, 2) := by decide +kernel
theorem dX11_acts_164 : decode cX11_acts 164 = .ok (.aload_n 0, 1) := by decide +kernel
theorem dX11_acts_165 : decode cX11_acts 165 = .ok (.getfield 70, 3) := by decide +kernel
theorem dX11_acts_168 : decode cX11_acts 168 = .ok (.bipush 30, 2) := by decide +kernel
theorem dX11_acts_170 : decode cX11_acts 170 = .ok (.iadd, 1) := by decide +kernel
theorem dX11_acts_171 : decode cX11_acts 171 = .ok (.if_icmp .gt 25, 3) := by decide +kernel
theorem dX11_acts_174 : decode cX11_acts 174 = .ok (.aload_n 0, 1) := by decide +kernel
theorem dX11_acts_175 : decode cX11_acts 175 = .ok (.iload_n 2, 1) := by decide +kernel
theorem dX11_acts_176 : decode cX11_acts 176 = .ok (.iconst 3, 1) := by decide +kernel
theorem dX11_acts_177 : decode cX11_acts 177 = .ok (.irem, 1) := by decide +kernel
theorem dX11_acts_178 : decode cX11_acts 178 = .ok (.iload 6, 2) := by decide +kernel
theorem dX11_acts_180 : decode cX11_acts 180 = .ok (.invokevirtual 85, 3) := by decide +kernel
theorem dX11_acts_183 : decode cX11_acts 183 = .ok (.ifCond .ge 13, 3) := by decide +kernel
theorem dX11_acts_186 : decode cX11_acts 186 = .ok (.aload_n 0, 1) := by decide +kernel
theorem dX11_acts_187 : decode cX11_acts 187 = .ok (.getfield 35, 3) := by decide +kernel
theorem dX11_acts_190 : decode cX11_acts 190 = .ok (.arraylength, 1) := by decide +kernel
theorem dX11_acts_191 : decode cX11_acts 191 = .ok (.bipush 30, 2) := by decide +kernel
theorem dX11_acts_193 : decode cX11_acts 193 = .ok (.if_icmp .ne 6, 3) := by decide +kernel
theorem dX11_acts_196 : decode cX11_acts 196 = .ok (.bipush (-9), 2) := by decide +kernel
theorem dX11_acts_198 : decode cX11_acts 198 = .ok (.ireturn, 1) := by decide +kernel
theorem dX11_acts_199 : decode cX11_acts 199 = .ok (.aload_n 0, 1) := by decide +kernel
theorem dX11_acts_200 : decode cX11_acts 200 = .ok (.aload_n 0, 1) := by decide +kernel
theorem dX11_acts_201 : decode cX11_acts 201 = .ok (.getfield 35, 3) := by decide +kernel
theorem dX11_acts_204 : decode cX11_acts 204 = .ok (.iconst 5, 1) := by decide +kernel
theorem dX11_acts_205 : decode cX11_acts 205 = .ok (.newarray .int, 2) := by decide +kernel
theorem dX11_acts_207 : decode cX11_acts 207 = .ok (.dup, 1) := by decide +kernel
theorem dX11_acts_208 : decode cX11_acts 208 = .ok (.iconst 0, 1) := by decide +kernel
theorem dX11_acts_209 : decode cX11_acts 209 = .ok (.iload_n 2, 1) := by decide +kernel
theorem dX11_acts_210 : decode cX11_acts 210 = .ok (.iconst 3, 1) := by decide +kernel
theorem dX11_acts_211 : decode cX11_acts 211 = .ok (.irem, 1) := by decide +kernel
theorem dX11_acts_212 : decode cX11_acts 212 = .ok (.iastore, 1) := by decide +kernel
theorem dX11_acts_213 : decode cX11_acts 213 = .ok (.dup, 1) := by decide +kernel
theorem dX11_acts_214 : decode cX11_acts 214 = .ok (.iconst 1, 1) := by decide +kernel
theorem dX11_acts_215 : decode cX11_acts 215 = .ok (.iload 6, 2) := by decide +kernel
theorem dX11_acts_217 : decode cX11_acts 217 = .ok (.iastore, 1) := by decide +kernel
theorem dX11_acts_218 : decode cX11_acts 218 = .ok (.dup, 1) := by decide +kernel
theorem dX11_acts_219 : decode cX11_acts 219 = .ok (.iconst 2, 1) := by decide +kernel
theorem dX11_acts_220 : decode cX11_acts 220 = .ok (.iload_n 3, 1) := by decide +kernel
theorem dX11_acts_221 : decode cX11_acts 221 = .ok (.bipush 64, 2) := by decide +kernel
theorem dX11_acts_223 : decode cX11_acts 223 = .ok (.idiv, 1) := by decide +kernel
theorem dX11_acts_224 : decode cX11_acts 224 = .ok (.iconst 3, 1) := by decide +kernel
theorem dX11_acts_225 : decode cX11_acts 225 = .ok (.irem, 1) := by decide +kernel
theorem dX11_acts_226 : decode cX11_acts 226 = .ok (.iastore, 1) := by decide +kernel
theorem dX11_acts_227 : decode cX11_acts 227 = .ok (.dup, 1) := by decide +kernel
theorem dX11_acts_228 : decode cX11_acts 228 = .ok (.iconst 3, 1) := by decide +kernel
theorem dX11_acts_229 : decode cX11_acts 229 = .ok (.iconst 0, 1) := by decide +kernel
theorem dX11_acts_230 : decode cX11_acts 230 = .ok (.iastore, 1) := by decide +kernel
theorem dX11_acts_231 : decode cX11_acts 231 = .ok (.dup, 1) := by decide +kernel
theorem dX11_acts_232 : decode cX11_acts 232 = .ok (.iconst 4, 1) := by decide +kernel
theorem dX11_acts_233 : decode cX11_acts 233 = .ok (.iconst 0, 1) := by decide +kernel
theorem dX11_acts_234 : decode cX11_acts 234 = .ok (.iastore, 1) := by decide +kernel
theorem dX11_acts_235 : decode cX11_acts 235 = .ok (.invokestatic 108, 3) := by decide +kernel
theorem dX11_acts_238 : decode cX11_acts 238 = .ok (.putfield 35, 3) := by decide +kernel
theorem dX11_acts_241 : decode cX11_acts 241 = .ok (.aload_n 0, 1) := by decide +kernel
theorem dX11_acts_242 : decode cX11_acts 242 = .ok (.getfield 35, 3) := by decide +kernel
theorem dX11_acts_245 : decode cX11_acts 245 = .ok (.arraylength, 1) := by decide +kernel
theorem dX11_acts_246 : decode cX11_acts 246 = .ok (.iconst 1, 1) := by decide +kernel
theorem dX11_acts_247 : decode cX11_acts 247 = .ok (.isub, 1) := by decide +kernel
theorem dX11_acts_248 : decode cX11_acts 248 = .ok (.iconst 4, 1) := by decide +kernel
theorem dX11_acts_249 : decode cX11_acts 249 = .ok (.idiv, 1) := by decide +kernel
theorem dX11_acts_250 : decode cX11_acts 250 = .ok (.ireturn, 1) := by decide +kernel
theorem dX11_acts_251 : decode cX11_acts 251 = .ok (.aload_n 0, 1) := by decide +kernel
theorem dX11_acts_252 : decode cX11_acts 252 = .ok (.iload_n 2, 1) := by decide +kernel
theorem dX11_acts_253 : decode cX11_acts 253 = .ok (.iload 4, 2) := by decide +kernel
theorem dX11_acts_255 : decode cX11_acts 255 = .ok (.irem, 1) := by decide +kernel
theorem dX11_acts_256 : decode cX11_acts 256 = .ok (.invokevirtual 112, 3) := by decide +kernel
theorem dX11_acts_259 : decode cX11_acts 259 = .ok (.ireturn, 1) := by decide +kernel
theorem dX11_acts_260 : decode cX11_acts 260 = .ok (.aload_n 0, 1) := by decide +kernel
theorem dX11_acts_261 : decode cX11_acts 261 = .ok (.getfield 13, 3) := by decide +kernel
theorem dX11_acts_264 : decode cX11_acts 264 = .ok (.iload_n 2, 1) := by decide +kernel
theorem dX11_acts_265 : decode cX11_acts 265 = .ok (.iconst 3, 1) := by decide +kernel
theorem dX11_acts_266 : decode cX11_acts 266 = .ok (.irem, 1) := by decide +kernel
theorem dX11_acts_267 : decode cX11_acts 267 = .ok (.iaload, 1) := by decide +kernel
theorem dX11_acts_268 : decode cX11_acts 268 = .ok (.istore 5, 2) := by decide +kernel
theorem dX11_acts_270 : decode cX11_acts 270 = .ok (.aload_n 0, 1) := by decide +kernel
theorem dX11_acts_271 : decode cX11_acts 271 = .ok (.getfield 13, 3) := by decide +kernel
theorem dX11_acts_274 : decode cX11_acts 274 = .ok (.iload_n 2, 1) := by decide +kernel
theorem dX11_acts_275 : decode cX11_acts 275 = .ok (.iconst 3, 1) := by decide +kernel
theorem dX11_acts_276 : decode cX11_acts 276 = .ok (.irem, 1) := by decide +kernel
theorem dX11_acts_277 : decode cX11_acts 277 = .ok (.iload_n 3, 1) := by decide +kernel
theorem dX11_acts_278 : decode cX11_acts 278 = .ok (.bipush 101, 2) := by decide +kernel
theorem dX11_acts_280 : decode cX11_acts 280 = .ok (.irem, 1) := by decide +kernel
theorem dX11_acts_281 : decode cX11_acts 281 = .ok (.iastore, 1) := by decide +kernel
theorem dX11_acts_282 : decode cX11_acts 282 = .ok (.iload 5, 2) := by decide +kernel
theorem dX11_acts_284 : decode cX11_acts 284 = .ok (.ireturn, 1) := by decide +kernel
theorem dX11_acts_285 : decode cX11_acts 285 = .ok (.aload_n 0, 1) := by decide +kernel
theorem dX11_acts_286 : decode cX11_acts 286 = .ok (.getfield 7, 3) := by decide +kernel
theorem dX11_acts_289 : decode cX11_acts 289 = .ok (.iload_n 2, 1) := by decide +kernel
theorem dX11_acts_290 : decode cX11_acts 290 = .ok (.iconst 3, 1) := by decide +kernel
theorem dX11_acts_291 : decode cX11_acts 291 = .ok (.irem, 1) := by decide +kernel
theorem dX11_acts_292 : decode cX11_acts 292 = .ok (.iaload, 1) := by decide +kernel
theorem dX11_acts_293 : decode cX11_acts 293 = .ok (.istore 5, 2) := by decide +kernel
theorem dX11_acts_295 : decode cX11_acts 295 = .ok (.aload_n 0, 1) := by decide +kernel
theorem dX11_acts_296 : decode cX11_acts 296 = .ok (.getfield 7, 3) := by decide +kernel
theorem dX11_acts_299 : decode cX11_acts 299 = .ok (.iload_n 2, 1) := by decide +kernel
theorem dX11_acts_300 : decode cX11_acts 300 = .ok (.iconst 3, 1) := by decide +kernel
theorem dX11_acts_301 : decode cX11_acts 301 = .ok (.irem, 1) := by decide +kernel
theorem dX11_acts_302 : decode cX11_acts 302 = .ok (.iconst 1, 1) := by decide +kernel
theorem dX11_acts_303 : decode cX11_acts 303 = .ok (.iload_n 3, 1) := by decide +kernel
theorem dX11_acts_304 : decode cX11_acts 304 = .ok (.bipush 99, 2) := by decide +kernel
theorem dX11_acts_306 : decode cX11_acts 306 = .ok (.irem, 1) := by decide +kernel
theorem dX11_acts_307 : decode cX11_acts 307 = .ok (.iadd, 1) := by decide +kernel
theorem dX11_acts_308 : decode cX11_acts 308 = .ok (.iastore, 1) := by decide +kernel
theorem dX11_acts_309 : decode cX11_acts 309 = .ok (.iload 5, 2) := by decide +kernel
theorem dX11_acts_311 : decode cX11_acts 311 = .ok (.ireturn, 1) := by decide +kernel
theorem dX11_acts_312 : decode cX11_acts 312 = .ok (.aload_n 0, 1) := by decide +kernel
theorem dX11_acts_313 : decode cX11_acts 313 = .ok (.getfield 16, 3) := by decide +kernel
theorem dX11_acts_316 : decode cX11_acts 316 = .ok (.iload_n 2, 1) := by decide +kernel
theorem dX11_acts_317 : decode cX11_acts 317 = .ok (.iconst 3, 1) := by decide +kernel
theorem dX11_acts_318 : decode cX11_acts 318 = .ok (.irem, 1) := by decide +kernel
theorem dX11_acts_319 : decode cX11_acts 319 = .ok (.iaload, 1) := by decide +kernel
theorem dX11_acts_320 : decode cX11_acts 320 = .ok (.istore 5, 2) := by decide +kernel
theorem dX11_acts_322 : decode cX11_acts 322 = .ok (.aload_n 0, 1) := by decide +kernel
theorem dX11_acts_323 : decode cX11_acts 323 = .ok (.getfield 16, 3) := by decide +kernel
theorem dX11_acts_326 : decode cX11_acts 326 = .ok (.iconst 0, 1) := by decide +kernel
theorem dX11_acts_327 : decode cX11_acts 327 = .ok (.iaload, 1) := by decide +kernel
theorem dX11_acts_328 : decode cX11_acts 328 = .ok (.aload_n 0, 1) := by decide +kernel
theorem dX11_acts_329 : decode cX11_acts 329 = .ok (.getfield 16, 3) := by decide +kernel
theorem dX11_acts_332 : decode cX11_acts 332 = .ok (.iconst 1, 1) := by decide +kernel
theorem dX11_acts_333 : decode cX11_acts 333 = .ok (.iaload, 1) := by decide +kernel
theorem dX11_acts_334 : decode cX11_acts 334 = .ok (.iadd, 1) := by decide +kernel
theorem dX11_acts_335 : decode cX11_acts 335 = .ok (.aload_n 0, 1) := by decide +kernel
theorem dX11_acts_336 : decode cX11_acts 336 = .ok (.getfield 16, 3) := by decide +kernel
theorem dX11_acts_339 : decode cX11_acts 339 = .ok (.iconst 2, 1) := by decide +kernel
theorem dX11_acts_340 : decode cX11_acts 340 = .ok (.iaload, 1) := by decide +kernel
theorem dX11_acts_341 : decode cX11_acts 341 = .ok (.iadd, 1) := by decide +kernel
theorem dX11_acts_342 : decode cX11_acts 342 = .ok (.iload 5, 2) := by decide +kernel
theorem dX11_acts_344 : decode cX11_acts 344 = .ok (.isub, 1) := by decide +kernel
theorem dX11_acts_345 : decode cX11_acts 345 = .ok (.iload_n 3, 1) := by decide +kernel
theorem dX11_acts_346 : decode cX11_acts 346 = .ok (.bipush 21, 2) := by decide +kernel
theorem dX11_acts_348 : decode cX11_acts 348 = .ok (.irem, 1) := by decide +kernel
theorem dX11_acts_349 : decode cX11_acts 349 = .ok (.iadd, 1) := by decide +kernel
theorem dX11_acts_350 : decode cX11_acts 350 = .ok (.ifCond .ne 6, 3) := by decide +kernel
theorem dX11_acts_353 : decode cX11_acts 353 = .ok (.bipush (-9), 2) := by decide +kernel
theorem dX11_acts_355 : decode cX11_acts 355 = .ok (.ireturn, 1) := by decide +kernel
theorem dX11_acts_356 : decode cX11_acts 356 = .ok (.aload_n 0, 1) := by decide +kernel
theorem dX11_acts_357 : decode cX11_acts 357 = .ok (.getfield 16, 3) := by decide +kernel
theorem dX11_acts_360 : decode cX11_acts 360 = .ok (.iload_n 2, 1) := by decide +kernel
theorem dX11_acts_361 : decode cX11_acts 361 = .ok (.iconst 3, 1) := by decide +kernel
theorem dX11_acts_362 : decode cX11_acts 362 = .ok (.irem, 1) := by decide +kernel
theorem dX11_acts_363 : decode cX11_acts 363 = .ok (.iload_n 3, 1) := by decide +kernel
theorem dX11_acts_364 : decode cX11_acts 364 = .ok (.bipush 21, 2) := by decide +kernel
theorem dX11_acts_366 : decode cX11_acts 366 = .ok (.irem, 1) := by decide +kernel
theorem dX11_acts_367 : decode cX11_acts 367 = .ok (.iastore, 1) := by decide +kernel
theorem dX11_acts_368 : decode cX11_acts 368 = .ok (.iload 5, 2) := by decide +kernel
theorem dX11_acts_370 : decode cX11_acts 370 = .ok (.ireturn, 1) := by decide +kernel
theorem dX11_acts_371 : decode cX11_acts 371 = .ok (.aload_n 0, 1) := by decide +kernel
theorem dX11_acts_372 : decode cX11_acts 372 = .ok (.getfield 67, 3) := by decide +kernel
theorem dX11_acts_375 : decode cX11_acts 375 = .ok (.istore 5, 2) := by decide +kernel
theorem dX11_acts_377 : decode cX11_acts 377 = .ok (.iconst 0, 1) := by decide +kernel
theorem dX11_acts_378 : decode cX11_acts 378 = .ok (.istore 6, 2) := by decide +kernel
theorem dX11_acts_380 : decode cX11_acts 380 = .ok (.iload 6, 2) := by decide +kernel
theorem dX11_acts_382 : decode cX11_acts 382 = .ok (.iload_n 3, 1) := by decide +kernel
theorem dX11_acts_383 : decode cX11_acts 383 = .ok (.iload_n 1, 1) := by decide +kernel
theorem dX11_acts_384 : decode cX11_acts 384 = .ok (.bipush 32, 2) := by decide +kernel
theorem dX11_acts_386 : decode cX11_acts 386 = .ok (.irem, 1) := by decide +kernel
theorem dX11_acts_387 : decode cX11_acts 387 = .ok (.bipush 29, 2) := by decide +kernel
theorem dX11_acts_389 : decode cX11_acts 389 = .ok (.if_icmp .ge 7, 3) := by decide +kernel
theorem dX11_acts_392 : decode cX11_acts 392 = .ok (.iconst 3, 1) := by decide +kernel
theorem dX11_acts_393 : decode cX11_acts 393 = .ok (.goto 5, 3) := by decide +kernel
theorem dX11_acts_396 : decode cX11_acts 396 = .ok (.bipush 25, 2) := by decide +kernel
theorem dX11_acts_398 : decode cX11_acts 398 = .ok (.irem, 1) := by decide +kernel
theorem dX11_acts_399 : decode cX11_acts 399 = .ok (.if_icmp .gt 13, 3) := by decide +kernel
theorem dX11_acts_402 : decode cX11_acts 402 = .ok (.aload_n 0, 1) := by decide +kernel
theorem dX11_acts_403 : decode cX11_acts 403 = .ok (.invokevirtual 116, 3) := by decide +kernel
theorem dX11_acts_406 : decode cX11_acts 406 = .ok (.iinc 6 1, 3) := by decide +kernel
theorem dX11_acts_409 : decode cX11_acts 409 = .ok (.goto (-29), 3) := by decide +kernel
theorem dX11_acts_412 : decode cX11_acts 412 = .ok (.aload_n 0, 1) := by decide +kernel
theorem dX11_acts_413 : decode cX11_acts 413 = .ok (.getfield 67, 3) := by decide +kernel
theorem dX11_acts_416 : decode cX11_acts 416 = .ok (.iload 5, 2) := by decide +kernel
theorem dX11_acts_418 : decode cX11_acts 418 = .ok (.isub, 1) := by decide +kernel
theorem dX11_acts_419 : decode cX11_acts 419 = .ok (.ireturn, 1) := by decide +kernel
theorem dX11_agrees_0 : decode cX11_agrees 0 = .ok (.aload_n 1, 1) := by decide +kernel
theorem dX11_agrees_1 : decode cX11_agrees 1 = .ok (.invokevirtual 119, 3) := by decide +kernel
theorem dX11_agrees_4 : decode cX11_agrees 4 = .ok (.aload_n 0, 1) := by decide +kernel
theorem dX11_agrees_5 : decode cX11_agrees 5 = .ok (.getfield 70, 3) := by decide +kernel
theorem dX11_agrees_8 : decode cX11_agrees 8 = .ok (.if_icmp .ne 82, 3) := by decide +kernel
theorem dX11_agrees_11 : decode cX11_agrees 11 = .ok (.aload_n 1, 1) := by decide +kernel
theorem dX11_agrees_12 : decode cX11_agrees 12 = .ok (.invokevirtual 124, 3) := by decide +kernel
theorem dX11_agrees_15 : decode cX11_agrees 15 = .ok (.aload_n 0, 1) := by decide +kernel
theorem dX11_agrees_16 : decode cX11_agrees 16 = .ok (.getfield 48, 3) := by decide +kernel
theorem dX11_agrees_19 : decode cX11_agrees 19 = .ok (.if_icmp .ne 71, 3) := by decide +kernel
theorem dX11_agrees_22 : decode cX11_agrees 22 = .ok (.aload_n 1, 1) := by decide +kernel
theorem dX11_agrees_23 : decode cX11_agrees 23 = .ok (.invokevirtual 126, 3) := by decide +kernel
theorem dX11_agrees_26 : decode cX11_agrees 26 = .ok (.aload_n 0, 1) := by decide +kernel
theorem dX11_agrees_27 : decode cX11_agrees 27 = .ok (.getfield 82, 3) := by decide +kernel
theorem dX11_agrees_30 : decode cX11_agrees 30 = .ok (.if_icmp .ne 60, 3) := by decide +kernel
theorem dX11_agrees_33 : decode cX11_agrees 33 = .ok (.aload_n 1, 1) := by decide +kernel
theorem dX11_agrees_34 : decode cX11_agrees 34 = .ok (.invokevirtual 128, 3) := by decide +kernel
theorem dX11_agrees_37 : decode cX11_agrees 37 = .ok (.aload_n 0, 1) := by decide +kernel
theorem dX11_agrees_38 : decode cX11_agrees 38 = .ok (.getfield 92, 3) := by decide +kernel
theorem dX11_agrees_41 : decode cX11_agrees 41 = .ok (.if_icmp .ne 49, 3) := by decide +kernel
theorem dX11_agrees_44 : decode cX11_agrees 44 = .ok (.aload_n 1, 1) := by decide +kernel
theorem dX11_agrees_45 : decode cX11_agrees 45 = .ok (.invokevirtual 130, 3) := by decide +kernel
theorem dX11_agrees_48 : decode cX11_agrees 48 = .ok (.aload_n 0, 1) := by decide +kernel
theorem dX11_agrees_49 : decode cX11_agrees 49 = .ok (.getfield 67, 3) := by decide +kernel
theorem dX11_agrees_52 : decode cX11_agrees 52 = .ok (.if_icmp .ne 38, 3) := by decide +kernel
theorem dX11_agrees_55 : decode cX11_agrees 55 = .ok (.aload_n 1, 1) := by decide +kernel
theorem dX11_agrees_56 : decode cX11_agrees 56 = .ok (.invokevirtual 132, 3) := by decide +kernel
theorem dX11_agrees_59 : decode cX11_agrees 59 = .ok (.aload_n 0, 1) := by decide +kernel
theorem dX11_agrees_60 : decode cX11_agrees 60 = .ok (.getfield 105, 3) := by decide +kernel
theorem dX11_agrees_63 : decode cX11_agrees 63 = .ok (.if_icmp .ne 27, 3) := by decide +kernel
theorem dX11_agrees_66 : decode cX11_agrees 66 = .ok (.aload_n 1, 1) := by decide +kernel
theorem dX11_agrees_67 : decode cX11_agrees 67 = .ok (.invokevirtual 135, 3) := by decide +kernel
theorem dX11_agrees_70 : decode cX11_agrees 70 = .ok (.aload_n 0, 1) := by decide +kernel
theorem dX11_agrees_71 : decode cX11_agrees 71 = .ok (.getfield 35, 3) := by decide +kernel
theorem dX11_agrees_74 : decode cX11_agrees 74 = .ok (.arraylength, 1) := by decide +kernel
theorem dX11_agrees_75 : decode cX11_agrees 75 = .ok (.if_icmp .ne 15, 3) := by decide +kernel
theorem dX11_agrees_78 : decode cX11_agrees 78 = .ok (.aload_n 1, 1) := by decide +kernel
theorem dX11_agrees_79 : decode cX11_agrees 79 = .ok (.invokevirtual 138, 3) := by decide +kernel
theorem dX11_agrees_82 : decode cX11_agrees 82 = .ok (.aload_n 0, 1) := by decide +kernel
theorem dX11_agrees_83 : decode cX11_agrees 83 = .ok (.getfield 39, 3) := by decide +kernel
theorem dX11_agrees_86 : decode cX11_agrees 86 = .ok (.arraylength, 1) := by decide +kernel
theorem dX11_agrees_87 : decode cX11_agrees 87 = .ok (.if_icmp .eq 5, 3) := by decide +kernel
theorem dX11_agrees_90 : decode cX11_agrees 90 = .ok (.iconst 0, 1) := by decide +kernel
theorem dX11_agrees_91 : decode cX11_agrees 91 = .ok (.ireturn, 1) := by decide +kernel
theorem dX11_agrees_92 : decode cX11_agrees 92 = .ok (.iconst 0, 1) := by decide +kernel
theorem dX11_agrees_93 : decode cX11_agrees 93 = .ok (.istore_n 2, 1) := by decide +kernel
theorem dX11_agrees_94 : decode cX11_agrees 94 = .ok (.iload_n 2, 1) := by decide +kernel
theorem dX11_agrees_95 : decode cX11_agrees 95 = .ok (.iconst 3, 1) := by decide +kernel
theorem dX11_agrees_96 : decode cX11_agrees 96 = .ok (.if_icmp .ge 67, 3) := by decide +kernel
theorem dX11_agrees_99 : decode cX11_agrees 99 = .ok (.aload_n 1, 1) := by decide +kernel
theorem dX11_agrees_100 : decode cX11_agrees 100 = .ok (.iload_n 2, 1) := by decide +kernel
theorem dX11_agrees_101 : decode cX11_agrees 101 = .ok (.invokevirtual 141, 3) := by decide +kernel
theorem dX11_agrees_104 : decode cX11_agrees 104 = .ok (.aload_n 0, 1) := by decide +kernel
theorem dX11_agrees_105 : decode cX11_agrees 105 = .ok (.getfield 7, 3) := by decide +kernel
theorem dX11_agrees_108 : decode cX11_agrees 108 = .ok (.iload_n 2, 1) := by decide +kernel
theorem dX11_agrees_109 : decode cX11_agrees 109 = .ok (.iaload, 1) := by decide +kernel
theorem dX11_agrees_110 : decode cX11_agrees 110 = .ok (.if_icmp .ne 45, 3) := by decide +kernel
theorem dX11_agrees_113 : decode cX11_agrees 113 = .ok (.aload_n 1, 1) := by decide +kernel
theorem dX11_agrees_114 : decode cX11_agrees 114 = .ok (.iload_n 2, 1) := by decide +kernel
theorem dX11_agrees_115 : decode cX11_agrees 115 = .ok (.invokevirtual 144, 3) := by decide +kernel
theorem dX11_agrees_118 : decode cX11_agrees 118 = .ok (.aload_n 0, 1) := by decide +kernel
theorem dX11_agrees_119 : decode cX11_agrees 119 = .ok (.getfield 13, 3) := by decide +kernel
theorem dX11_agrees_122 : decode cX11_agrees 122 = .ok (.iload_n 2, 1) := by decide +kernel
theorem dX11_agrees_123 : decode cX11_agrees 123 = .ok (.iaload, 1) := by decide +kernel
theorem dX11_agrees_124 : decode cX11_agrees 124 = .ok (.if_icmp .ne 31, 3) := by decide +kernel
theorem dX11_agrees_127 : decode cX11_agrees 127 = .ok (.aload_n 1, 1) := by decide +kernel
theorem dX11_agrees_128 : decode cX11_agrees 128 = .ok (.iload_n 2, 1) := by decide +kernel
theorem dX11_agrees_129 : decode cX11_agrees 129 = .ok (.invokevirtual 147, 3) := by decide +kernel
theorem dX11_agrees_132 : decode cX11_agrees 132 = .ok (.aload_n 0, 1) := by decide +kernel
theorem dX11_agrees_133 : decode cX11_agrees 133 = .ok (.getfield 16, 3) := by decide +kernel
theorem dX11_agrees_136 : decode cX11_agrees 136 = .ok (.iload_n 2, 1) := by decide +kernel
theorem dX11_agrees_137 : decode cX11_agrees 137 = .ok (.iaload, 1) := by decide +kernel
theorem dX11_agrees_138 : decode cX11_agrees 138 = .ok (.if_icmp .ne 17, 3) := by decide +kernel
theorem dX11_agrees_141 : decode cX11_agrees 141 = .ok (.aload_n 1, 1) := by decide +kernel
theorem dX11_agrees_142 : decode cX11_agrees 142 = .ok (.iload_n 2, 1) := by decide +kernel
theorem dX11_agrees_143 : decode cX11_agrees 143 = .ok (.invokevirtual 150, 3) := by decide +kernel
theorem dX11_agrees_146 : decode cX11_agrees 146 = .ok (.aload_n 0, 1) := by decide +kernel
theorem dX11_agrees_147 : decode cX11_agrees 147 = .ok (.getfield 19, 3) := by decide +kernel
theorem dX11_agrees_150 : decode cX11_agrees 150 = .ok (.iload_n 2, 1) := by decide +kernel
theorem dX11_agrees_151 : decode cX11_agrees 151 = .ok (.iaload, 1) := by decide +kernel
theorem dX11_agrees_152 : decode cX11_agrees 152 = .ok (.if_icmp .eq 5, 3) := by decide +kernel
theorem dX11_agrees_155 : decode cX11_agrees 155 = .ok (.iconst 0, 1) := by decide +kernel
theorem dX11_agrees_156 : decode cX11_agrees 156 = .ok (.ireturn, 1) := by decide +kernel
theorem dX11_agrees_157 : decode cX11_agrees 157 = .ok (.iinc 2 1, 3) := by decide +kernel
theorem dX11_agrees_160 : decode cX11_agrees 160 = .ok (.goto (-66), 3) := by decide +kernel
theorem dX11_agrees_163 : decode cX11_agrees 163 = .ok (.iconst 0, 1) := by decide +kernel
theorem dX11_agrees_164 : decode cX11_agrees 164 = .ok (.istore_n 2, 1) := by decide +kernel
theorem dX11_agrees_165 : decode cX11_agrees 165 = .ok (.iload_n 2, 1) := by decide +kernel
theorem dX11_agrees_166 : decode cX11_agrees 166 = .ok (.aload_n 0, 1) := by decide +kernel
theorem dX11_agrees_167 : decode cX11_agrees 167 = .ok (.getfield 35, 3) := by decide +kernel
theorem dX11_agrees_170 : decode cX11_agrees 170 = .ok (.arraylength, 1) := by decide +kernel
theorem dX11_agrees_171 : decode cX11_agrees 171 = .ok (.if_icmp .ge 100, 3) := by decide +kernel
theorem dX11_agrees_174 : decode cX11_agrees 174 = .ok (.aload_n 0, 1) := by decide +kernel
theorem dX11_agrees_175 : decode cX11_agrees 175 = .ok (.getfield 35, 3) := by decide +kernel
theorem dX11_agrees_178 : decode cX11_agrees 178 = .ok (.iload_n 2, 1) := by decide +kernel
theorem dX11_agrees_179 : decode cX11_agrees 179 = .ok (.aaload, 1) := by decide +kernel
theorem dX11_agrees_180 : decode cX11_agrees 180 = .ok (.astore_n 3, 1) := by decide +kernel
theorem dX11_agrees_181 : decode cX11_agrees 181 = .ok (.aload_n 1, 1) := by decide +kernel
theorem dX11_agrees_182 : decode cX11_agrees 182 = .ok (.iload_n 2, 1) := by decide +kernel
theorem dX11_agrees_183 : decode cX11_agrees 183 = .ok (.invokevirtual 153, 3) := by decide +kernel
theorem dX11_agrees_186 : decode cX11_agrees 186 = .ok (.bipush 10, 2) := by decide +kernel
theorem dX11_agrees_188 : decode cX11_agrees 188 = .ok (.aload_n 3, 1) := by decide +kernel
theorem dX11_agrees_189 : decode cX11_agrees 189 = .ok (.iconst 1, 1) := by decide +kernel
theorem dX11_agrees_190 : decode cX11_agrees 190 = .ok (.iaload, 1) := by decide +kernel
theorem dX11_agrees_191 : decode cX11_agrees 191 = .ok (.imul, 1) := by decide +kernel
theorem dX11_agrees_192 : decode cX11_agrees 192 = .ok (.aload_n 3, 1) := by decide +kernel
theorem dX11_agrees_193 : decode cX11_agrees 193 = .ok (.iconst 0, 1) := by decide +kernel
theorem dX11_agrees_194 : decode cX11_agrees 194 = .ok (.iaload, 1) := by decide +kernel
theorem dX11_agrees_195 : decode cX11_agrees 195 = .ok (.iadd, 1) := by decide +kernel
theorem dX11_agrees_196 : decode cX11_agrees 196 = .ok (.if_icmp .ne 67, 3) := by decide +kernel
theorem dX11_agrees_199 : decode cX11_agrees 199 = .ok (.aload_n 1, 1) := by decide +kernel
theorem dX11_agrees_200 : decode cX11_agrees 200 = .ok (.aload_n 3, 1) := by decide +kernel
theorem dX11_agrees_201 : decode cX11_agrees 201 = .ok (.iconst 0, 1) := by decide +kernel
theorem dX11_agrees_202 : decode cX11_agrees 202 = .ok (.iaload, 1) := by decide +kernel
theorem dX11_agrees_203 : decode cX11_agrees 203 = .ok (.aload_n 3, 1) := by decide +kernel
theorem dX11_agrees_204 : decode cX11_agrees 204 = .ok (.iconst 1, 1) := by decide +kernel
theorem dX11_agrees_205 : decode cX11_agrees 205 = .ok (.iaload, 1) := by decide +kernel
theorem dX11_agrees_206 : decode cX11_agrees 206 = .ok (.invokevirtual 156, 3) := by decide +kernel
theorem dX11_agrees_209 : decode cX11_agrees 209 = .ok (.aload_n 3, 1) := by decide +kernel
theorem dX11_agrees_210 : decode cX11_agrees 210 = .ok (.iconst 2, 1) := by decide +kernel
theorem dX11_agrees_211 : decode cX11_agrees 211 = .ok (.iaload, 1) := by decide +kernel
theorem dX11_agrees_212 : decode cX11_agrees 212 = .ok (.if_icmp .ne 51, 3) := by decide +kernel
theorem dX11_agrees_215 : decode cX11_agrees 215 = .ok (.aload_n 1, 1) := by decide +kernel
theorem dX11_agrees_216 : decode cX11_agrees 216 = .ok (.aload_n 3, 1) := by decide +kernel
theorem dX11_agrees_217 : decode cX11_agrees 217 = .ok (.iconst 0, 1) := by decide +kernel
theorem dX11_agrees_218 : decode cX11_agrees 218 = .ok (.iaload, 1) := by decide +kernel
theorem dX11_agrees_219 : decode cX11_agrees 219 = .ok (.aload_n 3, 1) := by decide +kernel
theorem dX11_agrees_220 : decode cX11_agrees 220 = .ok (.iconst 1, 1) := by decide +kernel
theorem dX11_agrees_221 : decode cX11_agrees 221 = .ok (.iaload, 1) := by decide +kernel
theorem dX11_agrees_222 : decode cX11_agrees 222 = .ok (.invokevirtual 159, 3) := by decide +kernel
theorem dX11_agrees_225 : decode cX11_agrees 225 = .ok (.aload_n 3, 1) := by decide +kernel
theorem dX11_agrees_226 : decode cX11_agrees 226 = .ok (.iconst 3, 1) := by decide +kernel
theorem dX11_agrees_227 : decode cX11_agrees 227 = .ok (.iaload, 1) := by decide +kernel
theorem dX11_agrees_228 : decode cX11_agrees 228 = .ok (.if_icmp .ne 35, 3) := by decide +kernel
theorem dX11_agrees_231 : decode cX11_agrees 231 = .ok (.aload_n 1, 1) := by decide +kernel
theorem dX11_agrees_232 : decode cX11_agrees 232 = .ok (.aload_n 3, 1) := by decide +kernel
theorem dX11_agrees_233 : decode cX11_agrees 233 = .ok (.iconst 0, 1) := by decide +kernel
theorem dX11_agrees_234 : decode cX11_agrees 234 = .ok (.iaload, 1) := by decide +kernel
theorem dX11_agrees_235 : decode cX11_agrees 235 = .ok (.aload_n 3, 1) := by decide +kernel
theorem dX11_agrees_236 : decode cX11_agrees 236 = .ok (.iconst 1, 1) := by decide +kernel
theorem dX11_agrees_237 : decode cX11_agrees 237 = .ok (.iaload, 1) := by decide +kernel
theorem dX11_agrees_238 : decode cX11_agrees 238 = .ok (.invokevirtual 162, 3) := by decide +kernel
theorem dX11_agrees_241 : decode cX11_agrees 241 = .ok (.aload_n 3, 1) := by decide +kernel
theorem dX11_agrees_242 : decode cX11_agrees 242 = .ok (.iconst 4, 1) := by decide +kernel
theorem dX11_agrees_243 : decode cX11_agrees 243 = .ok (.iaload, 1) := by decide +kernel
theorem dX11_agrees_244 : decode cX11_agrees 244 = .ok (.if_icmp .ne 19, 3) := by decide +kernel
theorem dX11_agrees_247 : decode cX11_agrees 247 = .ok (.aload_n 1, 1) := by decide +kernel
theorem dX11_agrees_248 : decode cX11_agrees 248 = .ok (.aload_n 3, 1) := by decide +kernel
theorem dX11_agrees_249 : decode cX11_agrees 249 = .ok (.iconst 0, 1) := by decide +kernel
theorem dX11_agrees_250 : decode cX11_agrees 250 = .ok (.iaload, 1) := by decide +kernel
theorem dX11_agrees_251 : decode cX11_agrees 251 = .ok (.aload_n 3, 1) := by decide +kernel
theorem dX11_agrees_252 : decode cX11_agrees 252 = .ok (.iconst 1, 1) := by decide +kernel
theorem dX11_agrees_253 : decode cX11_agrees 253 = .ok (.iaload, 1) := by decide +kernel
theorem dX11_agrees_254 : decode cX11_agrees 254 = .ok (.invokevirtual 165, 3) := by decide +kernel
theorem dX11_agrees_257 : decode cX11_agrees 257 = .ok (.iload_n 2, 1) := by decide +kernel
theorem dX11_agrees_258 : decode cX11_agrees 258 = .ok (.iconst 4, 1) := by decide +kernel
theorem dX11_agrees_259 : decode cX11_agrees 259 = .ok (.idiv, 1) := by decide +kernel
theorem dX11_agrees_260 : decode cX11_agrees 260 = .ok (.if_icmp .eq 5, 3) := by decide +kernel
theorem dX11_agrees_263 : decode cX11_agrees 263 = .ok (.iconst 0, 1) := by decide +kernel
theorem dX11_agrees_264 : decode cX11_agrees 264 = .ok (.ireturn, 1) := by decide +kernel
theorem dX11_agrees_265 : decode cX11_agrees 265 = .ok (.iinc 2 1, 3) := by decide +kernel
theorem dX11_agrees_268 : decode cX11_agrees 268 = .ok (.goto (-103), 3) := by decide +kernel
theorem dX11_agrees_271 : decode cX11_agrees 271 = .ok (.iconst 0, 1) := by decide +kernel
theorem dX11_agrees_272 : decode cX11_agrees 272 = .ok (.istore_n 2, 1) := by decide +kernel
theorem dX11_agrees_273 : decode cX11_agrees 273 = .ok (.iload_n 2, 1) := by decide +kernel
theorem dX11_agrees_274 : decode cX11_agrees 274 = .ok (.aload_n 0, 1) := by decide +kernel
theorem dX11_agrees_275 : decode cX11_agrees 275 = .ok (.getfield 39, 3) := by decide +kernel
theorem dX11_agrees_278 : decode cX11_agrees 278 = .ok (.arraylength, 1) := by decide +kernel
theorem dX11_agrees_279 : decode cX11_agrees 279 = .ok (.if_icmp .ge 25, 3) := by decide +kernel
theorem dX11_agrees_282 : decode cX11_agrees 282 = .ok (.aload_n 1, 1) := by decide +kernel
theorem dX11_agrees_283 : decode cX11_agrees 283 = .ok (.iload_n 2, 1) := by decide +kernel
theorem dX11_agrees_284 : decode cX11_agrees 284 = .ok (.invokevirtual 168, 3) := by decide +kernel
theorem dX11_agrees_287 : decode cX11_agrees 287 = .ok (.aload_n 0, 1) := by decide +kernel
theorem dX11_agrees_288 : decode cX11_agrees 288 = .ok (.getfield 39, 3) := by decide +kernel
theorem dX11_agrees_291 : decode cX11_agrees 291 = .ok (.iload_n 2, 1) := by decide +kernel
theorem dX11_agrees_292 : decode cX11_agrees 292 = .ok (.iaload, 1) := by decide +kernel
theorem dX11_agrees_293 : decode cX11_agrees 293 = .ok (.if_icmp .eq 5, 3) := by decide +kernel
theorem dX11_agrees_296 : decode cX11_agrees 296 = .ok (.iconst 0, 1) := by decide +kernel
theorem dX11_agrees_297 : decode cX11_agrees 297 = .ok (.ireturn, 1) := by decide +kernel
theorem dX11_agrees_298 : decode cX11_agrees 298 = .ok (.iinc 2 1, 3) := by decide +kernel
theorem dX11_agrees_301 : decode cX11_agrees 301 = .ok (.goto (-28), 3) := by decide +kernel
theorem dX11_agrees_304 : decode cX11_agrees 304 = .ok (.iconst 1, 1) := by decide +kernel
theorem dX11_agrees_305 : decode cX11_agrees 305 = .ok (.ireturn, 1) := by decide +kernel
theorem dJ5_init_d00df_0 : decode cJ5_init_d00df 0 = .ok (.aload_n 0, 1) := by decide +kernel
theorem dJ5_init_d00df_1 : decode cJ5_init_d00df 1 = .ok (.invokespecial 3, 3) := by decide +kernel
theorem dJ5_init_d00df_4 : decode cJ5_init_d00df 4 = .ok (.getstatic 18, 3) := by decide +kernel
theorem dJ5_init_d00df_7 : decode cJ5_init_d00df 7 = .ok (.ifCond .eq 18, 3) := by decide +kernel
theorem dJ5_init_d00df_10 : decode cJ5_init_d00df 10 = .ok (.aload_n 0, 1) := by decide +kernel
theorem dJ5_init_d00df_11 : decode cJ5_init_d00df 11 = .ok (.iload_n 1, 1) := by decide +kernel
theorem dJ5_init_d00df_12 : decode cJ5_init_d00df 12 = .ok (.newarray .byte, 2) := by decide +kernel
theorem dJ5_init_d00df_14 : decode cJ5_init_d00df 14 = .ok (.putfield 15, 3) := by decide +kernel
theorem dJ5_init_d00df_17 : decode cJ5_init_d00df 17 = .ok (.aload_n 0, 1) := by decide +kernel
theorem dJ5_init_d00df_18 : decode cJ5_init_d00df 18 = .ok (.iconst 0, 1) := by decide +kernel
theorem dJ5_init_d00df_19 : decode cJ5_init_d00df 19 = .ok (.putfield 22, 3) := by decide +kernel
theorem dJ5_init_d00df_22 : decode cJ5_init_d00df 22 = .ok (.goto 16, 3) := by decide +kernel
theorem dJ5_init_d00df_25 : decode cJ5_init_d00df 25 = .ok (.aload_n 0, 1) := by decide +kernel
theorem dJ5_init_d00df_26 : decode cJ5_init_d00df 26 = .ok (.iload_n 1, 1) := by decide +kernel
theorem dJ5_init_d00df_27 : decode cJ5_init_d00df 27 = .ok (.invokestatic 26, 3) := by decide +kernel
theorem dJ5_init_d00df_30 : decode cJ5_init_d00df 30 = .ok (.putfield 15, 3) := by decide +kernel
theorem dJ5_init_d00df_33 : decode cJ5_init_d00df 33 = .ok (.aload_n 0, 1) := by decide +kernel
theorem dJ5_init_d00df_34 : decode cJ5_init_d00df 34 = .ok (.iconst 1, 1) := by decide +kernel
theorem dJ5_init_d00df_35 : decode cJ5_init_d00df 35 = .ok (.putfield 22, 3) := by decide +kernel
theorem dJ5_init_d00df_38 : decode cJ5_init_d00df 38 = .ok (.return_, 1) := by decide +kernel
theorem dJ5_init_a7421_0 : decode cJ5_init_a7421 0 = .ok (.aload_n 0, 1) := by decide +kernel
theorem dJ5_init_a7421_1 : decode cJ5_init_a7421 1 = .ok (.invokespecial 3, 3) := by decide +kernel
theorem dJ5_init_a7421_4 : decode cJ5_init_a7421 4 = .ok (.aload_n 1, 1) := by decide +kernel
theorem dJ5_init_a7421_5 : decode cJ5_init_a7421 5 = .ok (.invokevirtual 32, 3) := by decide +kernel
theorem dJ5_init_a7421_8 : decode cJ5_init_a7421 8 = .ok (.istore_n 2, 1) := by decide +kernel
theorem dJ5_init_a7421_9 : decode cJ5_init_a7421 9 = .ok (.iload_n 2, 1) := by decide +kernel
theorem dJ5_init_a7421_10 : decode cJ5_init_a7421 10 = .ok (.ldc 38, 2) := by decide +kernel
theorem dJ5_init_a7421_12 : decode cJ5_init_a7421 12 = .ok (.if_icmp .ge 10, 3) := by decide +kernel
theorem dJ5_init_a7421_15 : decode cJ5_init_a7421 15 = .ok (.iload_n 2, 1) := by decide +kernel
theorem dJ5_init_a7421_16 : decode cJ5_init_a7421 16 = .ok (.bipush 16, 2) := by decide +kernel
theorem dJ5_init_a7421_18 : decode cJ5_init_a7421 18 = .ok (.iadd, 1) := by decide +kernel
theorem dJ5_init_a7421_19 : decode cJ5_init_a7421 19 = .ok (.goto 5, 3) := by decide +kernel
theorem dJ5_init_a7421_22 : decode cJ5_init_a7421 22 = .ok (.ldc 39, 2) := by decide +kernel
theorem dJ5_init_a7421_24 : decode cJ5_init_a7421 24 = .ok (.istore_n 3, 1) := by decide +kernel
theorem dJ5_init_a7421_25 : decode cJ5_init_a7421 25 = .ok (.aload_n 1, 1) := by decide +kernel
theorem dJ5_init_a7421_26 : decode cJ5_init_a7421 26 = .ok (.invokevirtual 40, 3) := by decide +kernel
theorem dJ5_init_a7421_29 : decode cJ5_init_a7421 29 = .ok (.istore 4, 2) := by decide +kernel
theorem dJ5_init_a7421_31 : decode cJ5_init_a7421 31 = .ok (.aload_n 0, 1) := by decide +kernel
theorem dJ5_init_a7421_32 : decode cJ5_init_a7421 32 = .ok (.iload 4, 2) := by decide +kernel
theorem dJ5_init_a7421_34 : decode cJ5_init_a7421 34 = .ok (.putfield 22, 3) := by decide +kernel
theorem dJ5_init_a7421_37 : decode cJ5_init_a7421 37 = .ok (.aload_n 0, 1) := by decide +kernel
theorem dJ5_init_a7421_38 : decode cJ5_init_a7421 38 = .ok (.iload 4, 2) := by decide +kernel
theorem dJ5_init_a7421_40 : decode cJ5_init_a7421 40 = .ok (.ifCond .ne 9, 3) := by decide +kernel
theorem dJ5_init_a7421_43 : decode cJ5_init_a7421 43 = .ok (.iload_n 3, 1) := by decide +kernel
theorem dJ5_init_a7421_44 : decode cJ5_init_a7421 44 = .ok (.newarray .byte, 2) := by decide +kernel
theorem dJ5_init_a7421_46 : decode cJ5_init_a7421 46 = .ok (.goto 7, 3) := by decide +kernel
theorem dJ5_init_a7421_49 : decode cJ5_init_a7421 49 = .ok (.iload_n 3, 1) := by decide +kernel
theorem dJ5_init_a7421_50 : decode cJ5_init_a7421 50 = .ok (.invokestatic 26, 3) := by decide +kernel
theorem dJ5_init_a7421_53 : decode cJ5_init_a7421 53 = .ok (.putfield 15, 3) := by decide +kernel
theorem dJ5_init_a7421_56 : decode cJ5_init_a7421 56 = .ok (.aload_n 0, 1) := by decide +kernel
theorem dJ5_init_a7421_57 : decode cJ5_init_a7421 57 = .ok (.aload_n 1, 1) := by decide +kernel
theorem dJ5_init_a7421_58 : decode cJ5_init_a7421 58 = .ok (.invokevirtual 43, 3) := by decide +kernel
theorem dJ5_init_a7421_61 : decode cJ5_init_a7421 61 = .ok (.pop, 1) := by decide +kernel
theorem dJ5_init_a7421_62 : decode cJ5_init_a7421 62 = .ok (.return_, 1) := by decide +kernel
theorem dJ5_length_8abf5_0 : decode cJ5_length_8abf5 0 = .ok (.aload_n 0, 1) := by decide +kernel
theorem dJ5_length_8abf5_1 : decode cJ5_length_8abf5 1 = .ok (.getfield 79, 3) := by decide +kernel
theorem dJ5_length_8abf5_4 : decode cJ5_length_8abf5 4 = .ok (.ireturn, 1) := by decide +kernel
theorem dJ5_ensureCapacityInternal_d00df_0 : decode cJ5_ensureCapacityInternal_d00df 0 = .ok (.aload_n 0, 1) := by decide +kernel
theorem dJ5_ensureCapacityInternal_d00df_1 : decode cJ5_ensureCapacityInternal_d00df 1 = .ok (.getfield 15, 3) := by decide +kernel
theorem dJ5_ensureCapacityInternal_d00df_4 : decode cJ5_ensureCapacityInternal_d00df 4 = .ok (.arraylength, 1) := by decide +kernel
theorem dJ5_ensureCapacityInternal_d00df_5 : decode cJ5_ensureCapacityInternal_d00df 5 = .ok (.aload_n 0, 1) := by decide +kernel
theorem dJ5_ensureCapacityInternal_d00df_6 : decode cJ5_ensureCapacityInternal_d00df 6 = .ok (.getfield 22, 3) := by decide +kernel
theorem dJ5_ensureCapacityInternal_d00df_9 : decode cJ5_ensureCapacityInternal_d00df 9 = .ok (.ishr, 1) := by decide +kernel
theorem dJ5_ensureCapacityInternal_d00df_10 : decode cJ5_ensureCapacityInternal_d00df 10 = .ok (.istore_n 2, 1) := by decide +kernel
theorem dJ5_ensureCapacityInternal_d00df_11 : decode cJ5_ensureCapacityInternal_d00df 11 = .ok (.iload_n 1, 1) := by decide +kernel
theorem dJ5_ensureCapacityInternal_d00df_12 : decode cJ5_ensureCapacityInternal_d00df 12 = .ok (.iload_n 2, 1) := by decide +kernel
theorem dJ5_ensureCapacityInternal_d00df_13 : decode cJ5_ensureCapacityInternal_d00df 13 = .ok (.isub, 1) := by decide +kernel
theorem dJ5_ensureCapacityInternal_d00df_14 : decode cJ5_ensureCapacityInternal_d00df 14 = .ok (.ifCond .le 24, 3) := by decide +kernel
theorem dJ5_ensureCapacityInternal_d00df_17 : decode cJ5_ensureCapacityInternal_d00df 17 = .ok (.aload_n 0, 1) := by decide +kernel
theorem dJ5_ensureCapacityInternal_d00df_18 : decode cJ5_ensureCapacityInternal_d00df 18 = .ok (.aload_n 0, 1) := by decide +kernel
theorem dJ5_ensureCapacityInternal_d00df_19 : decode cJ5_ensureCapacityInternal_d00df 19 = .ok (.getfield 15, 3) := by decide +kernel
theorem dJ5_ensureCapacityInternal_d00df_22 : decode cJ5_ensureCapacityInternal_d00df 22 = .ok (.aload_n 0, 1) := by decide +kernel
theorem dJ5_ensureCapacityInternal_d00df_23 : decode cJ5_ensureCapacityInternal_d00df 23 = .ok (.iload_n 1, 1) := by decide +kernel
theorem dJ5_ensureCapacityInternal_d00df_24 : decode cJ5_ensureCapacityInternal_d00df 24 = .ok (.invokevirtual 104, 3) := by decide +kernel
theorem dJ5_ensureCapacityInternal_d00df_27 : decode cJ5_ensureCapacityInternal_d00df 27 = .ok (.aload_n 0, 1) := by decide +kernel
theorem dJ5_ensureCapacityInternal_d00df_28 : decode cJ5_ensureCapacityInternal_d00df 28 = .ok (.getfield 22, 3) := by decide +kernel
theorem dJ5_ensureCapacityInternal_d00df_31 : decode cJ5_ensureCapacityInternal_d00df 31 = .ok (.ishl, 1) := by decide +kernel
theorem dJ5_ensureCapacityInternal_d00df_32 : decode cJ5_ensureCapacityInternal_d00df 32 = .ok (.invokestatic 108, 3) := by decide +kernel
theorem dJ5_ensureCapacityInternal_d00df_35 : decode cJ5_ensureCapacityInternal_d00df 35 = .ok (.putfield 15, 3) := by decide +kernel
theorem dJ5_ensureCapacityInternal_d00df_38 : decode cJ5_ensureCapacityInternal_d00df 38 = .ok (.return_, 1) := by decide +kernel
theorem dJ5_newCapacity_0f7a4_0 : decode cJ5_newCapacity_0f7a4 0 = .ok (.aload_n 0, 1) := by decide +kernel
theorem dJ5_newCapacity_0f7a4_1 : decode cJ5_newCapacity_0f7a4 1 = .ok (.getfield 15, 3) := by decide +kernel
theorem dJ5_newCapacity_0f7a4_4 : decode cJ5_newCapacity_0f7a4 4 = .ok (.arraylength, 1) := by decide +kernel
theorem dJ5_newCapacity_0f7a4_5 : decode cJ5_newCapacity_0f7a4 5 = .ok (.istore_n 2, 1) := by decide +kernel
theorem dJ5_newCapacity_0f7a4_6 : decode cJ5_newCapacity_0f7a4 6 = .ok (.iload_n 1, 1) := by decide +kernel
theorem dJ5_newCapacity_0f7a4_7 : decode cJ5_newCapacity_0f7a4 7 = .ok (.aload_n 0, 1) := by decide +kernel
theorem dJ5_newCapacity_0f7a4_8 : decode cJ5_newCapacity_0f7a4 8 = .ok (.getfield 22, 3) := by decide +kernel
theorem dJ5_newCapacity_0f7a4_11 : decode cJ5_newCapacity_0f7a4 11 = .ok (.ishl, 1) := by decide +kernel
theorem dJ5_newCapacity_0f7a4_12 : decode cJ5_newCapacity_0f7a4 12 = .ok (.istore_n 3, 1) := by decide +kernel
theorem dJ5_newCapacity_0f7a4_13 : decode cJ5_newCapacity_0f7a4 13 = .ok (.iload_n 3, 1) := by decide +kernel
theorem dJ5_newCapacity_0f7a4_14 : decode cJ5_newCapacity_0f7a4 14 = .ok (.iload_n 2, 1) := by decide +kernel
theorem dJ5_newCapacity_0f7a4_15 : decode cJ5_newCapacity_0f7a4 15 = .ok (.isub, 1) := by decide +kernel
theorem dJ5_newCapacity_0f7a4_16 : decode cJ5_newCapacity_0f7a4 16 = .ok (.istore 4, 2) := by decide +kernel
theorem dJ5_newCapacity_0f7a4_18 : decode cJ5_newCapacity_0f7a4 18 = .ok (.iload_n 2, 1) := by decide +kernel
theorem dJ5_newCapacity_0f7a4_19 : decode cJ5_newCapacity_0f7a4 19 = .ok (.iload 4, 2) := by decide +kernel
theorem dJ5_newCapacity_0f7a4_21 : decode cJ5_newCapacity_0f7a4 21 = .ok (.iload_n 2, 1) := by decide +kernel
theorem dJ5_newCapacity_0f7a4_22 : decode cJ5_newCapacity_0f7a4 22 = .ok (.iconst 2, 1) := by decide +kernel
theorem dJ5_newCapacity_0f7a4_23 : decode cJ5_newCapacity_0f7a4 23 = .ok (.aload_n 0, 1) := by decide +kernel
theorem dJ5_newCapacity_0f7a4_24 : decode cJ5_newCapacity_0f7a4 24 = .ok (.getfield 22, 3) := by decide +kernel
theorem dJ5_newCapacity_0f7a4_27 : decode cJ5_newCapacity_0f7a4 27 = .ok (.ishl, 1) := by decide +kernel
theorem dJ5_newCapacity_0f7a4_28 : decode cJ5_newCapacity_0f7a4 28 = .ok (.iadd, 1) := by decide +kernel
theorem dJ5_newCapacity_0f7a4_29 : decode cJ5_newCapacity_0f7a4 29 = .ok (.invokestatic 114, 3) := by decide +kernel
theorem dJ5_newCapacity_0f7a4_32 : decode cJ5_newCapacity_0f7a4 32 = .ok (.istore 5, 2) := by decide +kernel
theorem dJ5_newCapacity_0f7a4_34 : decode cJ5_newCapacity_0f7a4 34 = .ok (.iload 5, 2) := by decide +kernel
theorem dJ5_newCapacity_0f7a4_36 : decode cJ5_newCapacity_0f7a4 36 = .ok (.ldc 39, 2) := by decide +kernel
theorem dJ5_newCapacity_0f7a4_38 : decode cJ5_newCapacity_0f7a4 38 = .ok (.if_icmp .ne 13, 3) := by decide +kernel
theorem dJ5_newCapacity_0f7a4_41 : decode cJ5_newCapacity_0f7a4 41 = .ok (.new 120, 3) := by decide +kernel
theorem dJ5_newCapacity_0f7a4_44 : decode cJ5_newCapacity_0f7a4 44 = .ok (.dup, 1) := by decide +kernel
theorem dJ5_newCapacity_0f7a4_45 : decode cJ5_newCapacity_0f7a4 45 = .ok (.ldc 122, 2) := by decide +kernel
theorem dJ5_newCapacity_0f7a4_47 : decode cJ5_newCapacity_0f7a4 47 = .ok (.invokespecial 124, 3) := by decide +kernel
theorem dJ5_newCapacity_0f7a4_50 : decode cJ5_newCapacity_0f7a4 50 = .ok (.athrow, 1) := by decide +kernel
theorem dJ5_newCapacity_0f7a4_51 : decode cJ5_newCapacity_0f7a4 51 = .ok (.iload 5, 2) := by decide +kernel
theorem dJ5_newCapacity_0f7a4_53 : decode cJ5_newCapacity_0f7a4 53 = .ok (.aload_n 0, 1) := by decide +kernel
theorem dJ5_newCapacity_0f7a4_54 : decode cJ5_newCapacity_0f7a4 54 = .ok (.getfield 22, 3) := by decide +kernel
theorem dJ5_newCapacity_0f7a4_57 : decode cJ5_newCapacity_0f7a4 57 = .ok (.ishr, 1) := by decide +kernel
theorem dJ5_newCapacity_0f7a4_58 : decode cJ5_newCapacity_0f7a4 58 = .ok (.ireturn, 1) := by decide +kernel
theorem dJ5_inflate_da8c8_0 : decode cJ5_inflate_da8c8 0 = .ok (.aload_n 0, 1) := by decide +kernel
theorem dJ5_inflate_da8c8_1 : decode cJ5_inflate_da8c8 1 = .ok (.invokevirtual 83, 3) := by decide +kernel
theorem dJ5_inflate_da8c8_4 : decode cJ5_inflate_da8c8 4 = .ok (.ifCond .ne 4, 3) := by decide +kernel
theorem dJ5_inflate_da8c8_7 : decode cJ5_inflate_da8c8 7 = .ok (.return_, 1) := by decide +kernel
theorem dJ5_inflate_da8c8_8 : decode cJ5_inflate_da8c8 8 = .ok (.aload_n 0, 1) := by decide +kernel
theorem dJ5_inflate_da8c8_9 : decode cJ5_inflate_da8c8 9 = .ok (.getfield 15, 3) := by decide +kernel
theorem dJ5_inflate_da8c8_12 : decode cJ5_inflate_da8c8 12 = .ok (.arraylength, 1) := by decide +kernel
theorem dJ5_inflate_da8c8_13 : decode cJ5_inflate_da8c8 13 = .ok (.invokestatic 26, 3) := by decide +kernel
theorem dJ5_inflate_da8c8_16 : decode cJ5_inflate_da8c8 16 = .ok (.astore_n 1, 1) := by decide +kernel
theorem dJ5_inflate_da8c8_17 : decode cJ5_inflate_da8c8 17 = .ok (.aload_n 0, 1) := by decide +kernel
theorem dJ5_inflate_da8c8_18 : decode cJ5_inflate_da8c8 18 = .ok (.getfield 15, 3) := by decide +kernel
theorem dJ5_inflate_da8c8_21 : decode cJ5_inflate_da8c8 21 = .ok (.iconst 0, 1) := by decide +kernel
theorem dJ5_inflate_da8c8_22 : decode cJ5_inflate_da8c8 22 = .ok (.aload_n 1, 1) := by decide +kernel
theorem dJ5_inflate_da8c8_23 : decode cJ5_inflate_da8c8 23 = .ok (.iconst 0, 1) := by decide +kernel
theorem dJ5_inflate_da8c8_24 : decode cJ5_inflate_da8c8 24 = .ok (.aload_n 0, 1) := by decide +kernel
theorem dJ5_inflate_da8c8_25 : decode cJ5_inflate_da8c8 25 = .ok (.getfield 79, 3) := by decide +kernel
theorem dJ5_inflate_da8c8_28 : decode cJ5_inflate_da8c8 28 = .ok (.invokestatic 125, 3) := by decide +kernel
theorem dJ5_inflate_da8c8_31 : decode cJ5_inflate_da8c8 31 = .ok (.aload_n 0, 1) := by decide +kernel
theorem dJ5_inflate_da8c8_32 : decode cJ5_inflate_da8c8 32 = .ok (.aload_n 1, 1) := by decide +kernel
theorem dJ5_inflate_da8c8_33 : decode cJ5_inflate_da8c8 33 = .ok (.putfield 15, 3) := by decide +kernel
theorem dJ5_inflate_da8c8_36 : decode cJ5_inflate_da8c8 36 = .ok (.aload_n 0, 1) := by decide +kernel
theorem dJ5_inflate_da8c8_37 : decode cJ5_inflate_da8c8 37 = .ok (.iconst 1, 1) := by decide +kernel
theorem dJ5_inflate_da8c8_38 : decode cJ5_inflate_da8c8 38 = .ok (.putfield 22, 3) := by decide +kernel
theorem dJ5_inflate_da8c8_41 : decode cJ5_inflate_da8c8 41 = .ok (.return_, 1) := by decide +kernel
theorem dJ5_append_cf1ce_0 : decode cJ5_append_cf1ce 0 = .ok (.aload_n 1, 1) := by decide +kernel
theorem dJ5_append_cf1ce_1 : decode cJ5_append_cf1ce 1 = .ok (.ifnonnull 8, 3) := by decide +kernel
theorem dJ5_append_cf1ce_4 : decode cJ5_append_cf1ce 4 = .ok (.aload_n 0, 1) := by decide +kernel
theorem dJ5_append_cf1ce_5 : decode cJ5_append_cf1ce 5 = .ok (.invokevirtual 204, 3) := by decide +kernel
theorem dJ5_append_cf1ce_8 : decode cJ5_append_cf1ce 8 = .ok (.areturn, 1) := by decide +kernel
theorem dJ5_append_cf1ce_9 : decode cJ5_append_cf1ce 9 = .ok (.aload_n 1, 1) := by decide +kernel
theorem dJ5_append_cf1ce_10 : decode cJ5_append_cf1ce 10 = .ok (.invokevirtual 32, 3) := by decide +kernel
theorem dJ5_append_cf1ce_13 : decode cJ5_append_cf1ce 13 = .ok (.istore_n 2, 1) := by decide +kernel
theorem dJ5_append_cf1ce_14 : decode cJ5_append_cf1ce 14 = .ok (.aload_n 0, 1) := by decide +kernel
theorem dJ5_append_cf1ce_15 : decode cJ5_append_cf1ce 15 = .ok (.aload_n 0, 1) := by decide +kernel
theorem dJ5_append_cf1ce_16 : decode cJ5_append_cf1ce 16 = .ok (.getfield 79, 3) := by decide +kernel
theorem dJ5_append_cf1ce_19 : decode cJ5_append_cf1ce 19 = .ok (.iload_n 2, 1) := by decide +kernel
theorem dJ5_append_cf1ce_20 : decode cJ5_append_cf1ce 20 = .ok (.iadd, 1) := by decide +kernel
theorem dJ5_append_cf1ce_21 : decode cJ5_append_cf1ce 21 = .ok (.invokevirtual 100, 3) := by decide +kernel
theorem dJ5_append_cf1ce_24 : decode cJ5_append_cf1ce 24 = .ok (.aload_n 0, 1) := by decide +kernel
theorem dJ5_append_cf1ce_25 : decode cJ5_append_cf1ce 25 = .ok (.aload_n 0, 1) := by decide +kernel
theorem dJ5_append_cf1ce_26 : decode cJ5_append_cf1ce 26 = .ok (.getfield 79, 3) := by decide +kernel
theorem dJ5_append_cf1ce_29 : decode cJ5_append_cf1ce 29 = .ok (.aload_n 1, 1) := by decide +kernel
theorem dJ5_append_cf1ce_30 : decode cJ5_append_cf1ce 30 = .ok (.invokevirtual 208, 3) := by decide +kernel
theorem dJ5_append_cf1ce_33 : decode cJ5_append_cf1ce 33 = .ok (.aload_n 0, 1) := by decide +kernel
theorem dJ5_append_cf1ce_34 : decode cJ5_append_cf1ce 34 = .ok (.dup, 1) := by decide +kernel
theorem dJ5_append_cf1ce_35 : decode cJ5_append_cf1ce 35 = .ok (.getfield 79, 3) := by decide +kernel
theorem dJ5_append_cf1ce_38 : decode cJ5_append_cf1ce 38 = .ok (.iload_n 2, 1) := by decide +kernel
theorem dJ5_append_cf1ce_39 : decode cJ5_append_cf1ce 39 = .ok (.iadd, 1) := by decide +kernel
theorem dJ5_append_cf1ce_40 : decode cJ5_append_cf1ce 40 = .ok (.putfield 79, 3) := by decide +kernel
theorem dJ5_append_cf1ce_43 : decode cJ5_append_cf1ce 43 = .ok (.aload_n 0, 1) := by decide +kernel
theorem dJ5_append_cf1ce_44 : decode cJ5_append_cf1ce 44 = .ok (.areturn, 1) := by decide +kernel
theorem dJ5_appendNull_278bc_0 : decode cJ5_appendNull_278bc 0 = .ok (.aload_n 0, 1) := by decide +kernel
theorem dJ5_appendNull_278bc_1 : decode cJ5_appendNull_278bc 1 = .ok (.aload_n 0, 1) := by decide +kernel
theorem dJ5_appendNull_278bc_2 : decode cJ5_appendNull_278bc 2 = .ok (.getfield 79, 3) := by decide +kernel
theorem dJ5_appendNull_278bc_5 : decode cJ5_appendNull_278bc 5 = .ok (.iconst 4, 1) := by decide +kernel
theorem dJ5_appendNull_278bc_6 : decode cJ5_appendNull_278bc 6 = .ok (.iadd, 1) := by decide +kernel
theorem dJ5_appendNull_278bc_7 : decode cJ5_appendNull_278bc 7 = .ok (.invokevirtual 100, 3) := by decide +kernel
theorem dJ5_appendNull_278bc_10 : decode cJ5_appendNull_278bc 10 = .ok (.aload_n 0, 1) := by decide +kernel
theorem dJ5_appendNull_278bc_11 : decode cJ5_appendNull_278bc 11 = .ok (.getfield 79, 3) := by decide +kernel
theorem dJ5_appendNull_278bc_14 : decode cJ5_appendNull_278bc 14 = .ok (.istore_n 1, 1) := by decide +kernel
theorem dJ5_appendNull_278bc_15 : decode cJ5_appendNull_278bc 15 = .ok (.aload_n 0, 1) := by decide +kernel
theorem dJ5_appendNull_278bc_16 : decode cJ5_appendNull_278bc 16 = .ok (.getfield 15, 3) := by decide +kernel
theorem dJ5_appendNull_278bc_19 : decode cJ5_appendNull_278bc 19 = .ok (.astore_n 2, 1) := by decide +kernel
theorem dJ5_appendNull_278bc_20 : decode cJ5_appendNull_278bc 20 = .ok (.aload_n 0, 1) := by decide +kernel
theorem dJ5_appendNull_278bc_21 : decode cJ5_appendNull_278bc 21 = .ok (.invokevirtual 83, 3) := by decide +kernel
theorem dJ5_appendNull_278bc_24 : decode cJ5_appendNull_278bc 24 = .ok (.ifCond .eq 38, 3) := by decide +kernel
theorem dJ5_appendNull_278bc_27 : decode cJ5_appendNull_278bc 27 = .ok (.aload_n 2, 1) := by decide +kernel
theorem dJ5_appendNull_278bc_28 : decode cJ5_appendNull_278bc 28 = .ok (.iload_n 1, 1) := by decide +kernel
theorem dJ5_appendNull_278bc_29 : decode cJ5_appendNull_278bc 29 = .ok (.iinc 1 1, 3) := by decide +kernel
theorem dJ5_appendNull_278bc_32 : decode cJ5_appendNull_278bc 32 = .ok (.bipush 110, 2) := by decide +kernel
theorem dJ5_appendNull_278bc_34 : decode cJ5_appendNull_278bc 34 = .ok (.bastore, 1) := by decide +kernel
theorem dJ5_appendNull_278bc_35 : decode cJ5_appendNull_278bc 35 = .ok (.aload_n 2, 1) := by decide +kernel
theorem dJ5_appendNull_278bc_36 : decode cJ5_appendNull_278bc 36 = .ok (.iload_n 1, 1) := by decide +kernel
theorem dJ5_appendNull_278bc_37 : decode cJ5_appendNull_278bc 37 = .ok (.iinc 1 1, 3) := by decide +kernel
theorem dJ5_appendNull_278bc_40 : decode cJ5_appendNull_278bc 40 = .ok (.bipush 117, 2) := by decide +kernel
theorem dJ5_appendNull_278bc_42 : decode cJ5_appendNull_278bc 42 = .ok (.bastore, 1) := by decide +kernel
theorem dJ5_appendNull_278bc_43 : decode cJ5_appendNull_278bc 43 = .ok (.aload_n 2, 1) := by decide +kernel
theorem dJ5_appendNull_278bc_44 : decode cJ5_appendNull_278bc 44 = .ok (.iload_n 1, 1) := by decide +kernel
theorem dJ5_appendNull_278bc_45 : decode cJ5_appendNull_278bc 45 = .ok (.iinc 1 1, 3) := by decide +kernel
theorem dJ5_appendNull_278bc_48 : decode cJ5_appendNull_278bc 48 = .ok (.bipush 108, 2) := by decide +kernel
theorem dJ5_appendNull_278bc_50 : decode cJ5_appendNull_278bc 50 = .ok (.bastore, 1) := by decide +kernel
theorem dJ5_appendNull_278bc_51 : decode cJ5_appendNull_278bc 51 = .ok (.aload_n 2, 1) := by decide +kernel
theorem dJ5_appendNull_278bc_52 : decode cJ5_appendNull_278bc 52 = .ok (.iload_n 1, 1) := by decide +kernel
theorem dJ5_appendNull_278bc_53 : decode cJ5_appendNull_278bc 53 = .ok (.iinc 1 1, 3) := by decide +kernel
theorem dJ5_appendNull_278bc_56 : decode cJ5_appendNull_278bc 56 = .ok (.bipush 108, 2) := by decide +kernel
theorem dJ5_appendNull_278bc_58 : decode cJ5_appendNull_278bc 58 = .ok (.bastore, 1) := by decide +kernel
theorem dJ5_appendNull_278bc_59 : decode cJ5_appendNull_278bc 59 = .ok (.goto 17, 3) := by decide +kernel
theorem dJ5_appendNull_278bc_62 : decode cJ5_appendNull_278bc 62 = .ok (.aload_n 2, 1) := by decide +kernel
theorem dJ5_appendNull_278bc_63 : decode cJ5_appendNull_278bc 63 = .ok (.iload_n 1, 1) := by decide +kernel
theorem dJ5_appendNull_278bc_64 : decode cJ5_appendNull_278bc 64 = .ok (.bipush 110, 2) := by decide +kernel
theorem dJ5_appendNull_278bc_66 : decode cJ5_appendNull_278bc 66 = .ok (.bipush 117, 2) := by decide +kernel
theorem dJ5_appendNull_278bc_68 : decode cJ5_appendNull_278bc 68 = .ok (.bipush 108, 2) := by decide +kernel
theorem dJ5_appendNull_278bc_70 : decode cJ5_appendNull_278bc 70 = .ok (.bipush 108, 2) := by decide +kernel
theorem dJ5_appendNull_278bc_72 : decode cJ5_appendNull_278bc 72 = .ok (.invokestatic 226, 3) := by decide +kernel
theorem dJ5_appendNull_278bc_75 : decode cJ5_appendNull_278bc 75 = .ok (.istore_n 1, 1) := by decide +kernel
theorem dJ5_appendNull_278bc_76 : decode cJ5_appendNull_278bc 76 = .ok (.aload_n 0, 1) := by decide +kernel
theorem dJ5_appendNull_278bc_77 : decode cJ5_appendNull_278bc 77 = .ok (.iload_n 1, 1) := by decide +kernel
theorem dJ5_appendNull_278bc_78 : decode cJ5_appendNull_278bc 78 = .ok (.putfield 79, 3) := by decide +kernel
theorem dJ5_appendNull_278bc_81 : decode cJ5_appendNull_278bc 81 = .ok (.aload_n 0, 1) := by decide +kernel
theorem dJ5_appendNull_278bc_82 : decode cJ5_appendNull_278bc 82 = .ok (.areturn, 1) := by decide +kernel
theorem dJ5_append_3fe6f_0 : decode cJ5_append_3fe6f 0 = .ok (.aload_n 0, 1) := by decide +kernel
theorem dJ5_append_3fe6f_1 : decode cJ5_append_3fe6f 1 = .ok (.aload_n 0, 1) := by decide +kernel
theorem dJ5_append_3fe6f_2 : decode cJ5_append_3fe6f 2 = .ok (.getfield 79, 3) := by decide +kernel
theorem dJ5_append_3fe6f_5 : decode cJ5_append_3fe6f 5 = .ok (.iconst 1, 1) := by decide +kernel
theorem dJ5_append_3fe6f_6 : decode cJ5_append_3fe6f 6 = .ok (.iadd, 1) := by decide +kernel
theorem dJ5_append_3fe6f_7 : decode cJ5_append_3fe6f 7 = .ok (.invokevirtual 100, 3) := by decide +kernel
theorem dJ5_append_3fe6f_10 : decode cJ5_append_3fe6f 10 = .ok (.aload_n 0, 1) := by decide +kernel
theorem dJ5_append_3fe6f_11 : decode cJ5_append_3fe6f 11 = .ok (.invokevirtual 83, 3) := by decide +kernel
theorem dJ5_append_3fe6f_14 : decode cJ5_append_3fe6f 14 = .ok (.ifCond .eq 31, 3) := by decide +kernel
theorem dJ5_append_3fe6f_17 : decode cJ5_append_3fe6f 17 = .ok (.iload_n 1, 1) := by decide +kernel
theorem dJ5_append_3fe6f_18 : decode cJ5_append_3fe6f 18 = .ok (.invokestatic 191, 3) := by decide +kernel
theorem dJ5_append_3fe6f_21 : decode cJ5_append_3fe6f 21 = .ok (.ifCond .eq 24, 3) := by decide +kernel
theorem dJ5_append_3fe6f_24 : decode cJ5_append_3fe6f 24 = .ok (.aload_n 0, 1) := by decide +kernel
theorem dJ5_append_3fe6f_25 : decode cJ5_append_3fe6f 25 = .ok (.getfield 15, 3) := by decide +kernel
theorem dJ5_append_3fe6f_28 : decode cJ5_append_3fe6f 28 = .ok (.aload_n 0, 1) := by decide +kernel
theorem dJ5_append_3fe6f_29 : decode cJ5_append_3fe6f 29 = .ok (.dup, 1) := by decide +kernel
theorem dJ5_append_3fe6f_30 : decode cJ5_append_3fe6f 30 = .ok (.getfield 79, 3) := by decide +kernel
theorem dJ5_append_3fe6f_33 : decode cJ5_append_3fe6f 33 = .ok (.dup_x1, 1) := by decide +kernel
theorem dJ5_append_3fe6f_34 : decode cJ5_append_3fe6f 34 = .ok (.iconst 1, 1) := by decide +kernel
theorem dJ5_append_3fe6f_35 : decode cJ5_append_3fe6f 35 = .ok (.iadd, 1) := by decide +kernel
theorem dJ5_append_3fe6f_36 : decode cJ5_append_3fe6f 36 = .ok (.putfield 79, 3) := by decide +kernel
theorem dJ5_append_3fe6f_39 : decode cJ5_append_3fe6f 39 = .ok (.iload_n 1, 1) := by decide +kernel
theorem dJ5_append_3fe6f_40 : decode cJ5_append_3fe6f 40 = .ok (.i2b, 1) := by decide +kernel
theorem dJ5_append_3fe6f_41 : decode cJ5_append_3fe6f 41 = .ok (.bastore, 1) := by decide +kernel
theorem dJ5_append_3fe6f_42 : decode cJ5_append_3fe6f 42 = .ok (.goto 33, 3) := by decide +kernel
theorem dJ5_append_3fe6f_45 : decode cJ5_append_3fe6f 45 = .ok (.aload_n 0, 1) := by decide +kernel
theorem dJ5_append_3fe6f_46 : decode cJ5_append_3fe6f 46 = .ok (.invokevirtual 83, 3) := by decide +kernel
theorem dJ5_append_3fe6f_49 : decode cJ5_append_3fe6f 49 = .ok (.ifCond .eq 7, 3) := by decide +kernel
theorem dJ5_append_3fe6f_52 : decode cJ5_append_3fe6f 52 = .ok (.aload_n 0, 1) := by decide +kernel
theorem dJ5_append_3fe6f_53 : decode cJ5_append_3fe6f 53 = .ok (.invokevirtual 195, 3) := by decide +kernel
theorem dJ5_append_3fe6f_56 : decode cJ5_append_3fe6f 56 = .ok (.aload_n 0, 1) := by decide +kernel
theorem dJ5_append_3fe6f_57 : decode cJ5_append_3fe6f 57 = .ok (.getfield 15, 3) := by decide +kernel
theorem dJ5_append_3fe6f_60 : decode cJ5_append_3fe6f 60 = .ok (.aload_n 0, 1) := by decide +kernel
theorem dJ5_append_3fe6f_61 : decode cJ5_append_3fe6f 61 = .ok (.dup, 1) := by decide +kernel
theorem dJ5_append_3fe6f_62 : decode cJ5_append_3fe6f 62 = .ok (.getfield 79, 3) := by decide +kernel
theorem dJ5_append_3fe6f_65 : decode cJ5_append_3fe6f 65 = .ok (.dup_x1, 1) := by decide +kernel
theorem dJ5_append_3fe6f_66 : decode cJ5_append_3fe6f 66 = .ok (.iconst 1, 1) := by decide +kernel
theorem dJ5_append_3fe6f_67 : decode cJ5_append_3fe6f 67 = .ok (.iadd, 1) := by decide +kernel
theorem dJ5_append_3fe6f_68 : decode cJ5_append_3fe6f 68 = .ok (.putfield 79, 3) := by decide +kernel
theorem dJ5_append_3fe6f_71 : decode cJ5_append_3fe6f 71 = .ok (.iload_n 1, 1) := by decide +kernel
theorem dJ5_append_3fe6f_72 : decode cJ5_append_3fe6f 72 = .ok (.invokestatic 197, 3) := by decide +kernel
theorem dJ5_append_3fe6f_75 : decode cJ5_append_3fe6f 75 = .ok (.aload_n 0, 1) := by decide +kernel
theorem dJ5_append_3fe6f_76 : decode cJ5_append_3fe6f 76 = .ok (.areturn, 1) := by decide +kernel
theorem dJ5_append_c97b9_0 : decode cJ5_append_c97b9 0 = .ok (.aload_n 0, 1) := by decide +kernel
theorem dJ5_append_c97b9_1 : decode cJ5_append_c97b9 1 = .ok (.getfield 79, 3) := by decide +kernel
theorem dJ5_append_c97b9_4 : decode cJ5_append_c97b9 4 = .ok (.istore_n 2, 1) := by decide +kernel
theorem dJ5_append_c97b9_5 : decode cJ5_append_c97b9 5 = .ok (.iload_n 2, 1) := by decide +kernel
theorem dJ5_append_c97b9_6 : decode cJ5_append_c97b9 6 = .ok (.iload_n 1, 1) := by decide +kernel
theorem dJ5_append_c97b9_7 : decode cJ5_append_c97b9 7 = .ok (.invokestatic 245, 3) := by decide +kernel
theorem dJ5_append_c97b9_10 : decode cJ5_append_c97b9 10 = .ok (.iadd, 1) := by decide +kernel
theorem dJ5_append_c97b9_11 : decode cJ5_append_c97b9 11 = .ok (.istore_n 3, 1) := by decide +kernel
theorem dJ5_append_c97b9_12 : decode cJ5_append_c97b9 12 = .ok (.aload_n 0, 1) := by decide +kernel
theorem dJ5_append_c97b9_13 : decode cJ5_append_c97b9 13 = .ok (.iload_n 3, 1) := by decide +kernel
theorem dJ5_append_c97b9_14 : decode cJ5_append_c97b9 14 = .ok (.invokevirtual 100, 3) := by decide +kernel
theorem dJ5_append_c97b9_17 : decode cJ5_append_c97b9 17 = .ok (.aload_n 0, 1) := by decide +kernel
theorem dJ5_append_c97b9_18 : decode cJ5_append_c97b9 18 = .ok (.invokevirtual 83, 3) := by decide +kernel
theorem dJ5_append_c97b9_21 : decode cJ5_append_c97b9 21 = .ok (.ifCond .eq 16, 3) := by decide +kernel
theorem dJ5_append_c97b9_24 : decode cJ5_append_c97b9 24 = .ok (.iload_n 1, 1) := by decide +kernel
theorem dJ5_append_c97b9_25 : decode cJ5_append_c97b9 25 = .ok (.iload_n 3, 1) := by decide +kernel
theorem dJ5_append_c97b9_26 : decode cJ5_append_c97b9 26 = .ok (.aload_n 0, 1) := by decide +kernel
theorem dJ5_append_c97b9_27 : decode cJ5_append_c97b9 27 = .ok (.getfield 15, 3) := by decide +kernel
theorem dJ5_append_c97b9_30 : decode cJ5_append_c97b9 30 = .ok (.invokestatic 248, 3) := by decide +kernel
theorem dJ5_append_c97b9_33 : decode cJ5_append_c97b9 33 = .ok (.pop, 1) := by decide +kernel
theorem dJ5_append_c97b9_34 : decode cJ5_append_c97b9 34 = .ok (.goto 14, 3) := by decide +kernel
theorem dJ5_append_c97b9_37 : decode cJ5_append_c97b9 37 = .ok (.iload_n 1, 1) := by decide +kernel
theorem dJ5_append_c97b9_38 : decode cJ5_append_c97b9 38 = .ok (.iload_n 2, 1) := by decide +kernel
theorem dJ5_append_c97b9_39 : decode cJ5_append_c97b9 39 = .ok (.iload_n 3, 1) := by decide +kernel
theorem dJ5_append_c97b9_40 : decode cJ5_append_c97b9 40 = .ok (.aload_n 0, 1) := by decide +kernel
theorem dJ5_append_c97b9_41 : decode cJ5_append_c97b9 41 = .ok (.getfield 15, 3) := by decide +kernel
theorem dJ5_append_c97b9_44 : decode cJ5_append_c97b9 44 = .ok (.invokestatic 251, 3) := by decide +kernel
theorem dJ5_append_c97b9_47 : decode cJ5_append_c97b9 47 = .ok (.pop, 1) := by decide +kernel
theorem dJ5_append_c97b9_48 : decode cJ5_append_c97b9 48 = .ok (.aload_n 0, 1) := by decide +kernel
theorem dJ5_append_c97b9_49 : decode cJ5_append_c97b9 49 = .ok (.iload_n 3, 1) := by decide +kernel
theorem dJ5_append_c97b9_50 : decode cJ5_append_c97b9 50 = .ok (.putfield 79, 3) := by decide +kernel
theorem dJ5_append_c97b9_53 : decode cJ5_append_c97b9 53 = .ok (.aload_n 0, 1) := by decide +kernel
theorem dJ5_append_c97b9_54 : decode cJ5_append_c97b9 54 = .ok (.areturn, 1) := by decide +kernel
theorem dJ5_getValue_6d5f1_0 : decode cJ5_getValue_6d5f1 0 = .ok (.aload_n 0, 1) := by decide +kernel
theorem dJ5_getValue_6d5f1_1 : decode cJ5_getValue_6d5f1 1 = .ok (.getfield 15, 3) := by decide +kernel
theorem dJ5_getValue_6d5f1_4 : decode cJ5_getValue_6d5f1 4 = .ok (.areturn, 1) := by decide +kernel
theorem dJ5_isLatin1_aae02_0 : decode cJ5_isLatin1_aae02 0 = .ok (.getstatic 18, 3) := by decide +kernel
theorem dJ5_isLatin1_aae02_3 : decode cJ5_isLatin1_aae02 3 = .ok (.ifCond .eq 14, 3) := by decide +kernel
theorem dJ5_isLatin1_aae02_6 : decode cJ5_isLatin1_aae02 6 = .ok (.aload_n 0, 1) := by decide +kernel
theorem dJ5_isLatin1_aae02_7 : decode cJ5_isLatin1_aae02 7 = .ok (.getfield 22, 3) := by decide +kernel
theorem dJ5_isLatin1_aae02_10 : decode cJ5_isLatin1_aae02 10 = .ok (.ifCond .ne 7, 3) := by decide +kernel
theorem dJ5_isLatin1_aae02_13 : decode cJ5_isLatin1_aae02 13 = .ok (.iconst 1, 1) := by decide +kernel
theorem dJ5_isLatin1_aae02_14 : decode cJ5_isLatin1_aae02 14 = .ok (.goto 4, 3) := by decide +kernel
theorem dJ5_isLatin1_aae02_17 : decode cJ5_isLatin1_aae02 17 = .ok (.iconst 0, 1) := by decide +kernel
theorem dJ5_isLatin1_aae02_18 : decode cJ5_isLatin1_aae02 18 = .ok (.ireturn, 1) := by decide +kernel
theorem dJ5_inflateIfNeededFor_a7421_0 : decode cJ5_inflateIfNeededFor_a7421 0 = .ok (.getstatic 18, 3) := by decide +kernel
theorem dJ5_inflateIfNeededFor_a7421_3 : decode cJ5_inflateIfNeededFor_a7421 3 = .ok (.ifCond .eq 18, 3) := by decide +kernel
theorem dJ5_inflateIfNeededFor_a7421_6 : decode cJ5_inflateIfNeededFor_a7421 6 = .ok (.aload_n 0, 1) := by decide +kernel
theorem dJ5_inflateIfNeededFor_a7421_7 : decode cJ5_inflateIfNeededFor_a7421 7 = .ok (.getfield 22, 3) := by decide +kernel
theorem dJ5_inflateIfNeededFor_a7421_10 : decode cJ5_inflateIfNeededFor_a7421 10 = .ok (.aload_n 1, 1) := by decide +kernel
theorem dJ5_inflateIfNeededFor_a7421_11 : decode cJ5_inflateIfNeededFor_a7421 11 = .ok (.invokevirtual 40, 3) := by decide +kernel
theorem dJ5_inflateIfNeededFor_a7421_14 : decode cJ5_inflateIfNeededFor_a7421 14 = .ok (.if_icmp .eq 7, 3) := by decide +kernel
theorem dJ5_inflateIfNeededFor_a7421_17 : decode cJ5_inflateIfNeededFor_a7421 17 = .ok (.aload_n 0, 1) := by decide +kernel
theorem dJ5_inflateIfNeededFor_a7421_18 : decode cJ5_inflateIfNeededFor_a7421 18 = .ok (.invokevirtual 195, 3) := by decide +kernel
theorem dJ5_inflateIfNeededFor_a7421_21 : decode cJ5_inflateIfNeededFor_a7421 21 = .ok (.return_, 1) := by decide +kernel
theorem dJ5_putStringAt_47b60_0 : decode cJ5_putStringAt_47b60 0 = .ok (.aload_n 0, 1) := by decide +kernel
theorem dJ5_putStringAt_47b60_1 : decode cJ5_putStringAt_47b60 1 = .ok (.aload_n 2, 1) := by decide +kernel
theorem dJ5_putStringAt_47b60_2 : decode cJ5_putStringAt_47b60 2 = .ok (.invokevirtual 397, 3) := by decide +kernel
theorem dJ5_putStringAt_47b60_5 : decode cJ5_putStringAt_47b60 5 = .ok (.aload_n 2, 1) := by decide +kernel
theorem dJ5_putStringAt_47b60_6 : decode cJ5_putStringAt_47b60 6 = .ok (.aload_n 0, 1) := by decide +kernel
theorem dJ5_putStringAt_47b60_7 : decode cJ5_putStringAt_47b60 7 = .ok (.getfield 15, 3) := by decide +kernel
theorem dJ5_putStringAt_47b60_10 : decode cJ5_putStringAt_47b60 10 = .ok (.iload_n 1, 1) := by decide +kernel
theorem dJ5_putStringAt_47b60_11 : decode cJ5_putStringAt_47b60 11 = .ok (.aload_n 0, 1) := by decide +kernel
theorem dJ5_putStringAt_47b60_12 : decode cJ5_putStringAt_47b60 12 = .ok (.getfield 22, 3) := by decide +kernel
theorem dJ5_putStringAt_47b60_15 : decode cJ5_putStringAt_47b60 15 = .ok (.invokevirtual 399, 3) := by decide +kernel
theorem dJ5_putStringAt_47b60_18 : decode cJ5_putStringAt_47b60 18 = .ok (.return_, 1) := by decide +kernel
theorem dJ6_getChars_ba4f3_0 : decode cJ6_getChars_ba4f3 0 = .ok (.iload_n 1, 1) := by decide +kernel
theorem dJ6_getChars_ba4f3_1 : decode cJ6_getChars_ba4f3 1 = .ok (.istore 5, 2) := by decide +kernel
theorem dJ6_getChars_ba4f3_3 : decode cJ6_getChars_ba4f3 3 = .ok (.iload_n 0, 1) := by decide +kernel
theorem dJ6_getChars_ba4f3_4 : decode cJ6_getChars_ba4f3 4 = .ok (.ifCond .ge 7, 3) := by decide +kernel
theorem dJ6_getChars_ba4f3_7 : decode cJ6_getChars_ba4f3 7 = .ok (.iconst 1, 1) := by decide +kernel
theorem dJ6_getChars_ba4f3_8 : decode cJ6_getChars_ba4f3 8 = .ok (.goto 4, 3) := by decide +kernel
theorem dJ6_getChars_ba4f3_11 : decode cJ6_getChars_ba4f3 11 = .ok (.iconst 0, 1) := by decide +kernel
theorem dJ6_getChars_ba4f3_12 : decode cJ6_getChars_ba4f3 12 = .ok (.istore 6, 2) := by decide +kernel
theorem dJ6_getChars_ba4f3_14 : decode cJ6_getChars_ba4f3 14 = .ok (.iload 6, 2) := by decide +kernel
theorem dJ6_getChars_ba4f3_16 : decode cJ6_getChars_ba4f3 16 = .ok (.ifCond .ne 6, 3) := by decide +kernel
theorem dJ6_getChars_ba4f3_19 : decode cJ6_getChars_ba4f3 19 = .ok (.iload_n 0, 1) := by decide +kernel
theorem dJ6_getChars_ba4f3_20 : decode cJ6_getChars_ba4f3 20 = .ok (.ineg, 1) := by decide +kernel
theorem dJ6_getChars_ba4f3_21 : decode cJ6_getChars_ba4f3 21 = .ok (.istore_n 0, 1) := by decide +kernel
theorem dJ6_getChars_ba4f3_22 : decode cJ6_getChars_ba4f3 22 = .ok (.iload_n 0, 1) := by decide +kernel
theorem dJ6_getChars_ba4f3_23 : decode cJ6_getChars_ba4f3 23 = .ok (.bipush (-100), 2) := by decide +kernel
theorem dJ6_getChars_ba4f3_25 : decode cJ6_getChars_ba4f3 25 = .ok (.if_icmp .gt 47, 3) := by decide +kernel
theorem dJ6_getChars_ba4f3_28 : decode cJ6_getChars_ba4f3 28 = .ok (.iload_n 0, 1) := by decide +kernel
theorem dJ6_getChars_ba4f3_29 : decode cJ6_getChars_ba4f3 29 = .ok (.bipush 100, 2) := by decide +kernel
theorem dJ6_getChars_ba4f3_31 : decode cJ6_getChars_ba4f3 31 = .ok (.idiv, 1) := by decide +kernel
theorem dJ6_getChars_ba4f3_32 : decode cJ6_getChars_ba4f3 32 = .ok (.istore_n 3, 1) := by decide +kernel
theorem dJ6_getChars_ba4f3_33 : decode cJ6_getChars_ba4f3 33 = .ok (.iload_n 3, 1) := by decide +kernel
theorem dJ6_getChars_ba4f3_34 : decode cJ6_getChars_ba4f3 34 = .ok (.bipush 100, 2) := by decide +kernel
theorem dJ6_getChars_ba4f3_36 : decode cJ6_getChars_ba4f3 36 = .ok (.imul, 1) := by decide +kernel
theorem dJ6_getChars_ba4f3_37 : decode cJ6_getChars_ba4f3 37 = .ok (.iload_n 0, 1) := by decide +kernel
theorem dJ6_getChars_ba4f3_38 : decode cJ6_getChars_ba4f3 38 = .ok (.isub, 1) := by decide +kernel
theorem dJ6_getChars_ba4f3_39 : decode cJ6_getChars_ba4f3 39 = .ok (.istore 4, 2) := by decide +kernel
theorem dJ6_getChars_ba4f3_41 : decode cJ6_getChars_ba4f3 41 = .ok (.iload_n 3, 1) := by decide +kernel
theorem dJ6_getChars_ba4f3_42 : decode cJ6_getChars_ba4f3 42 = .ok (.istore_n 0, 1) := by decide +kernel
theorem dJ6_getChars_ba4f3_43 : decode cJ6_getChars_ba4f3 43 = .ok (.aload_n 2, 1) := by decide +kernel
theorem dJ6_getChars_ba4f3_44 : decode cJ6_getChars_ba4f3 44 = .ok (.iinc 5 (-1), 3) := by decide +kernel
theorem dJ6_getChars_ba4f3_47 : decode cJ6_getChars_ba4f3 47 = .ok (.iload 5, 2) := by decide +kernel
theorem dJ6_getChars_ba4f3_49 : decode cJ6_getChars_ba4f3 49 = .ok (.getstatic 83, 3) := by decide +kernel
theorem dJ6_getChars_ba4f3_52 : decode cJ6_getChars_ba4f3 52 = .ok (.iload 4, 2) := by decide +kernel
theorem dJ6_getChars_ba4f3_54 : decode cJ6_getChars_ba4f3 54 = .ok (.baload, 1) := by decide +kernel
theorem dJ6_getChars_ba4f3_55 : decode cJ6_getChars_ba4f3 55 = .ok (.bastore, 1) := by decide +kernel
theorem dJ6_getChars_ba4f3_56 : decode cJ6_getChars_ba4f3 56 = .ok (.aload_n 2, 1) := by decide +kernel
theorem dJ6_getChars_ba4f3_57 : decode cJ6_getChars_ba4f3 57 = .ok (.iinc 5 (-1), 3) := by decide +kernel
theorem dJ6_getChars_ba4f3_60 : decode cJ6_getChars_ba4f3 60 = .ok (.iload 5, 2) := by decide +kernel
theorem dJ6_getChars_ba4f3_62 : decode cJ6_getChars_ba4f3 62 = .ok (.getstatic 87, 3) := by decide +kernel
theorem dJ6_getChars_ba4f3_65 : decode cJ6_getChars_ba4f3 65 = .ok (.iload 4, 2) := by decide +kernel
theorem dJ6_getChars_ba4f3_67 : decode cJ6_getChars_ba4f3 67 = .ok (.baload, 1) := by decide +kernel
theorem dJ6_getChars_ba4f3_68 : decode cJ6_getChars_ba4f3 68 = .ok (.bastore, 1) := by decide +kernel
theorem dJ6_getChars_ba4f3_69 : decode cJ6_getChars_ba4f3 69 = .ok (.goto (-47), 3) := by decide +kernel
theorem dJ6_getChars_ba4f3_72 : decode cJ6_getChars_ba4f3 72 = .ok (.aload_n 2, 1) := by decide +kernel
theorem dJ6_getChars_ba4f3_73 : decode cJ6_getChars_ba4f3 73 = .ok (.iinc 5 (-1), 3) := by decide +kernel
theorem dJ6_getChars_ba4f3_76 : decode cJ6_getChars_ba4f3 76 = .ok (.iload 5, 2) := by decide +kernel
theorem dJ6_getChars_ba4f3_78 : decode cJ6_getChars_ba4f3 78 = .ok (.getstatic 83, 3) := by decide +kernel
theorem dJ6_getChars_ba4f3_81 : decode cJ6_getChars_ba4f3 81 = .ok (.iload_n 0, 1) := by decide +kernel
theorem dJ6_getChars_ba4f3_82 : decode cJ6_getChars_ba4f3 82 = .ok (.ineg, 1) := by decide +kernel
theorem dJ6_getChars_ba4f3_83 : decode cJ6_getChars_ba4f3 83 = .ok (.baload, 1) := by decide +kernel
theorem dJ6_getChars_ba4f3_84 : decode cJ6_getChars_ba4f3 84 = .ok (.bastore, 1) := by decide +kernel
theorem dJ6_getChars_ba4f3_85 : decode cJ6_getChars_ba4f3 85 = .ok (.iload_n 0, 1) := by decide +kernel
theorem dJ6_getChars_ba4f3_86 : decode cJ6_getChars_ba4f3 86 = .ok (.bipush (-9), 2) := by decide +kernel
theorem dJ6_getChars_ba4f3_88 : decode cJ6_getChars_ba4f3 88 = .ok (.if_icmp .ge 16, 3) := by decide +kernel
theorem dJ6_getChars_ba4f3_91 : decode cJ6_getChars_ba4f3 91 = .ok (.aload_n 2, 1) := by decide +kernel
theorem dJ6_getChars_ba4f3_92 : decode cJ6_getChars_ba4f3 92 = .ok (.iinc 5 (-1), 3) := by decide +kernel
theorem dJ6_getChars_ba4f3_95 : decode cJ6_getChars_ba4f3 95 = .ok (.iload 5, 2) := by decide +kernel
theorem dJ6_getChars_ba4f3_97 : decode cJ6_getChars_ba4f3 97 = .ok (.getstatic 87, 3) := by decide +kernel
theorem dJ6_getChars_ba4f3_100 : decode cJ6_getChars_ba4f3 100 = .ok (.iload_n 0, 1) := by decide +kernel
theorem dJ6_getChars_ba4f3_101 : decode cJ6_getChars_ba4f3 101 = .ok (.ineg, 1) := by decide +kernel
theorem dJ6_getChars_ba4f3_102 : decode cJ6_getChars_ba4f3 102 = .ok (.baload, 1) := by decide +kernel
theorem dJ6_getChars_ba4f3_103 : decode cJ6_getChars_ba4f3 103 = .ok (.bastore, 1) := by decide +kernel
theorem dJ6_getChars_ba4f3_104 : decode cJ6_getChars_ba4f3 104 = .ok (.iload 6, 2) := by decide +kernel
theorem dJ6_getChars_ba4f3_106 : decode cJ6_getChars_ba4f3 106 = .ok (.ifCond .eq 12, 3) := by decide +kernel
theorem dJ6_getChars_ba4f3_109 : decode cJ6_getChars_ba4f3 109 = .ok (.aload_n 2, 1) := by decide +kernel
theorem dJ6_getChars_ba4f3_110 : decode cJ6_getChars_ba4f3 110 = .ok (.iinc 5 (-1), 3) := by decide +kernel
theorem dJ6_getChars_ba4f3_113 : decode cJ6_getChars_ba4f3 113 = .ok (.iload 5, 2) := by decide +kernel
theorem dJ6_getChars_ba4f3_115 : decode cJ6_getChars_ba4f3 115 = .ok (.bipush 45, 2) := by decide +kernel
theorem dJ6_getChars_ba4f3_117 : decode cJ6_getChars_ba4f3 117 = .ok (.bastore, 1) := by decide +kernel
theorem dJ6_getChars_ba4f3_118 : decode cJ6_getChars_ba4f3 118 = .ok (.iload 5, 2) := by decide +kernel
theorem dJ6_getChars_ba4f3_120 : decode cJ6_getChars_ba4f3 120 = .ok (.ireturn, 1) := by decide +kernel
theorem dJ6_stringSize_0f7a4_0 : decode cJ6_stringSize_0f7a4 0 = .ok (.iconst 1, 1) := by decide +kernel
theorem dJ6_stringSize_0f7a4_1 : decode cJ6_stringSize_0f7a4 1 = .ok (.istore_n 1, 1) := by decide +kernel
theorem dJ6_stringSize_0f7a4_2 : decode cJ6_stringSize_0f7a4 2 = .ok (.iload_n 0, 1) := by decide +kernel
theorem dJ6_stringSize_0f7a4_3 : decode cJ6_stringSize_0f7a4 3 = .ok (.ifCond .lt 8, 3) := by decide +kernel
theorem dJ6_stringSize_0f7a4_6 : decode cJ6_stringSize_0f7a4 6 = .ok (.iconst 0, 1) := by decide +kernel
theorem dJ6_stringSize_0f7a4_7 : decode cJ6_stringSize_0f7a4 7 = .ok (.istore_n 1, 1) := by decide +kernel
theorem dJ6_stringSize_0f7a4_8 : decode cJ6_stringSize_0f7a4 8 = .ok (.iload_n 0, 1) := by decide +kernel
theorem dJ6_stringSize_0f7a4_9 : decode cJ6_stringSize_0f7a4 9 = .ok (.ineg, 1) := by decide +kernel
theorem dJ6_stringSize_0f7a4_10 : decode cJ6_stringSize_0f7a4 10 = .ok (.istore_n 0, 1) := by decide +kernel
theorem dJ6_stringSize_0f7a4_11 : decode cJ6_stringSize_0f7a4 11 = .ok (.bipush (-10), 2) := by decide +kernel
theorem dJ6_stringSize_0f7a4_13 : decode cJ6_stringSize_0f7a4 13 = .ok (.istore_n 2, 1) := by decide +kernel
theorem dJ6_stringSize_0f7a4_14 : decode cJ6_stringSize_0f7a4 14 = .ok (.iconst 1, 1) := by decide +kernel
theorem dJ6_stringSize_0f7a4_15 : decode cJ6_stringSize_0f7a4 15 = .ok (.istore_n 3, 1) := by decide +kernel
theorem dJ6_stringSize_0f7a4_16 : decode cJ6_stringSize_0f7a4 16 = .ok (.iload_n 3, 1) := by decide +kernel
theorem dJ6_stringSize_0f7a4_17 : decode cJ6_stringSize_0f7a4 17 = .ok (.bipush 10, 2) := by decide +kernel
theorem dJ6_stringSize_0f7a4_19 : decode cJ6_stringSize_0f7a4 19 = .ok (.if_icmp .ge 23, 3) := by decide +kernel
theorem dJ6_stringSize_0f7a4_22 : decode cJ6_stringSize_0f7a4 22 = .ok (.iload_n 0, 1) := by decide +kernel
theorem dJ6_stringSize_0f7a4_23 : decode cJ6_stringSize_0f7a4 23 = .ok (.iload_n 2, 1) := by decide +kernel
theorem dJ6_stringSize_0f7a4_24 : decode cJ6_stringSize_0f7a4 24 = .ok (.if_icmp .le 7, 3) := by decide +kernel
theorem dJ6_stringSize_0f7a4_27 : decode cJ6_stringSize_0f7a4 27 = .ok (.iload_n 3, 1) := by decide +kernel
theorem dJ6_stringSize_0f7a4_28 : decode cJ6_stringSize_0f7a4 28 = .ok (.iload_n 1, 1) := by decide +kernel
theorem dJ6_stringSize_0f7a4_29 : decode cJ6_stringSize_0f7a4 29 = .ok (.iadd, 1) := by decide +kernel
theorem dJ6_stringSize_0f7a4_30 : decode cJ6_stringSize_0f7a4 30 = .ok (.ireturn, 1) := by decide +kernel
theorem dJ6_stringSize_0f7a4_31 : decode cJ6_stringSize_0f7a4 31 = .ok (.bipush 10, 2) := by decide +kernel
theorem dJ6_stringSize_0f7a4_33 : decode cJ6_stringSize_0f7a4 33 = .ok (.iload_n 2, 1) := by decide +kernel
theorem dJ6_stringSize_0f7a4_34 : decode cJ6_stringSize_0f7a4 34 = .ok (.imul, 1) := by decide +kernel
theorem dJ6_stringSize_0f7a4_35 : decode cJ6_stringSize_0f7a4 35 = .ok (.istore_n 2, 1) := by decide +kernel
theorem dJ6_stringSize_0f7a4_36 : decode cJ6_stringSize_0f7a4 36 = .ok (.iinc 3 1, 3) := by decide +kernel
theorem dJ6_stringSize_0f7a4_39 : decode cJ6_stringSize_0f7a4 39 = .ok (.goto (-23), 3) := by decide +kernel
theorem dJ6_stringSize_0f7a4_42 : decode cJ6_stringSize_0f7a4 42 = .ok (.bipush 10, 2) := by decide +kernel
theorem dJ6_stringSize_0f7a4_44 : decode cJ6_stringSize_0f7a4 44 = .ok (.iload_n 1, 1) := by decide +kernel
theorem dJ6_stringSize_0f7a4_45 : decode cJ6_stringSize_0f7a4 45 = .ok (.iadd, 1) := by decide +kernel
theorem dJ6_stringSize_0f7a4_46 : decode cJ6_stringSize_0f7a4 46 = .ok (.ireturn, 1) := by decide +kernel
theorem dJ9_max_7cf53_0 : decode cJ9_max_7cf53 0 = .ok (.iload_n 0, 1) := by decide +kernel
theorem dJ9_max_7cf53_1 : decode cJ9_max_7cf53 1 = .ok (.iload_n 1, 1) := by decide +kernel
theorem dJ9_max_7cf53_2 : decode cJ9_max_7cf53 2 = .ok (.if_icmp .lt 7, 3) := by decide +kernel
theorem dJ9_max_7cf53_5 : decode cJ9_max_7cf53 5 = .ok (.iload_n 0, 1) := by decide +kernel
theorem dJ9_max_7cf53_6 : decode cJ9_max_7cf53 6 = .ok (.goto 4, 3) := by decide +kernel
theorem dJ9_max_7cf53_9 : decode cJ9_max_7cf53 9 = .ok (.iload_n 1, 1) := by decide +kernel
theorem dJ9_max_7cf53_10 : decode cJ9_max_7cf53 10 = .ok (.ireturn, 1) := by decide +kernel
theorem dJ9_min_7cf53_0 : decode cJ9_min_7cf53 0 = .ok (.iload_n 0, 1) := by decide +kernel
theorem dJ9_min_7cf53_1 : decode cJ9_min_7cf53 1 = .ok (.iload_n 1, 1) := by decide +kernel
theorem dJ9_min_7cf53_2 : decode cJ9_min_7cf53 2 = .ok (.if_icmp .gt 7, 3) := by decide +kernel
theorem dJ9_min_7cf53_5 : decode cJ9_min_7cf53 5 = .ok (.iload_n 0, 1) := by decide +kernel
theorem dJ9_min_7cf53_6 : decode cJ9_min_7cf53 6 = .ok (.goto 4, 3) := by decide +kernel
theorem dJ9_min_7cf53_9 : decode cJ9_min_7cf53 9 = .ok (.iload_n 1, 1) := by decide +kernel
theorem dJ9_min_7cf53_10 : decode cJ9_min_7cf53 10 = .ok (.ireturn, 1) := by decide +kernel
theorem dJ0_init_81219_0 : decode cJ0_init_81219 0 = .ok (.aload_n 0, 1) := by decide +kernel
theorem dJ0_init_81219_1 : decode cJ0_init_81219 1 = .ok (.aload_n 1, 1) := by decide +kernel
theorem dJ0_init_81219_2 : decode cJ0_init_81219 2 = .ok (.aconst_null, 1) := by decide +kernel
theorem dJ0_init_81219_3 : decode cJ0_init_81219 3 = .ok (.invokespecial 489, 3) := by decide +kernel
theorem dJ0_init_81219_6 : decode cJ0_init_81219 6 = .ok (.return_, 1) := by decide +kernel
theorem dJ0_length_8abf5_0 : decode cJ0_length_8abf5 0 = .ok (.aload_n 0, 1) := by decide +kernel
theorem dJ0_length_8abf5_1 : decode cJ0_length_8abf5 1 = .ok (.getfield 9, 3) := by decide +kernel
theorem dJ0_length_8abf5_4 : decode cJ0_length_8abf5 4 = .ok (.arraylength, 1) := by decide +kernel
theorem dJ0_length_8abf5_5 : decode cJ0_length_8abf5 5 = .ok (.aload_n 0, 1) := by decide +kernel
theorem dJ0_length_8abf5_6 : decode cJ0_length_8abf5 6 = .ok (.invokevirtual 335, 3) := by decide +kernel
theorem dJ0_length_8abf5_9 : decode cJ0_length_8abf5 9 = .ok (.ishr, 1) := by decide +kernel
theorem dJ0_length_8abf5_10 : decode cJ0_length_8abf5 10 = .ok (.ireturn, 1) := by decide +kernel
theorem dJ0_charAt_5068e_0 : decode cJ0_charAt_5068e 0 = .ok (.aload_n 0, 1) := by decide +kernel
theorem dJ0_charAt_5068e_1 : decode cJ0_charAt_5068e 1 = .ok (.invokevirtual 492, 3) := by decide +kernel
theorem dJ0_charAt_5068e_4 : decode cJ0_charAt_5068e 4 = .ok (.ifCond .eq 12, 3) := by decide +kernel
theorem dJ0_charAt_5068e_7 : decode cJ0_charAt_5068e 7 = .ok (.aload_n 0, 1) := by decide +kernel
theorem dJ0_charAt_5068e_8 : decode cJ0_charAt_5068e 8 = .ok (.getfield 9, 3) := by decide +kernel
theorem dJ0_charAt_5068e_11 : decode cJ0_charAt_5068e 11 = .ok (.iload_n 1, 1) := by decide +kernel
theorem dJ0_charAt_5068e_12 : decode cJ0_charAt_5068e 12 = .ok (.invokestatic 495, 3) := by decide +kernel
theorem dJ0_charAt_5068e_15 : decode cJ0_charAt_5068e 15 = .ok (.ireturn, 1) := by decide +kernel
theorem dJ0_charAt_5068e_16 : decode cJ0_charAt_5068e 16 = .ok (.aload_n 0, 1) := by decide +kernel
theorem dJ0_charAt_5068e_17 : decode cJ0_charAt_5068e 17 = .ok (.getfield 9, 3) := by decide +kernel
theorem dJ0_charAt_5068e_20 : decode cJ0_charAt_5068e 20 = .ok (.iload_n 1, 1) := by decide +kernel
theorem dJ0_charAt_5068e_21 : decode cJ0_charAt_5068e 21 = .ok (.invokestatic 498, 3) := by decide +kernel
theorem dJ0_charAt_5068e_24 : decode cJ0_charAt_5068e 24 = .ok (.ireturn, 1) := by decide +kernel
theorem dJ0_getBytes_840e7_0 : decode cJ0_getBytes_840e7 0 = .ok (.aload_n 0, 1) := by decide +kernel
theorem dJ0_getBytes_840e7_1 : decode cJ0_getBytes_840e7 1 = .ok (.invokevirtual 335, 3) := by decide +kernel
theorem dJ0_getBytes_840e7_4 : decode cJ0_getBytes_840e7 4 = .ok (.iload_n 3, 1) := by decide +kernel
theorem dJ0_getBytes_840e7_5 : decode cJ0_getBytes_840e7 5 = .ok (.if_icmp .ne 23, 3) := by decide +kernel
theorem dJ0_getBytes_840e7_8 : decode cJ0_getBytes_840e7 8 = .ok (.aload_n 0, 1) := by decide +kernel
theorem dJ0_getBytes_840e7_9 : decode cJ0_getBytes_840e7 9 = .ok (.getfield 9, 3) := by decide +kernel
theorem dJ0_getBytes_840e7_12 : decode cJ0_getBytes_840e7 12 = .ok (.iconst 0, 1) := by decide +kernel
theorem dJ0_getBytes_840e7_13 : decode cJ0_getBytes_840e7 13 = .ok (.aload_n 1, 1) := by decide +kernel
theorem dJ0_getBytes_840e7_14 : decode cJ0_getBytes_840e7 14 = .ok (.iload_n 2, 1) := by decide +kernel
theorem dJ0_getBytes_840e7_15 : decode cJ0_getBytes_840e7 15 = .ok (.iload_n 3, 1) := by decide +kernel
theorem dJ0_getBytes_840e7_16 : decode cJ0_getBytes_840e7 16 = .ok (.ishl, 1) := by decide +kernel
theorem dJ0_getBytes_840e7_17 : decode cJ0_getBytes_840e7 17 = .ok (.aload_n 0, 1) := by decide +kernel
theorem dJ0_getBytes_840e7_18 : decode cJ0_getBytes_840e7 18 = .ok (.getfield 9, 3) := by decide +kernel
theorem dJ0_getBytes_840e7_21 : decode cJ0_getBytes_840e7 21 = .ok (.arraylength, 1) := by decide +kernel
theorem dJ0_getBytes_840e7_22 : decode cJ0_getBytes_840e7 22 = .ok (.invokestatic 212, 3) := by decide +kernel
theorem dJ0_getBytes_840e7_25 : decode cJ0_getBytes_840e7 25 = .ok (.goto 18, 3) := by decide +kernel
theorem dJ0_getBytes_840e7_28 : decode cJ0_getBytes_840e7 28 = .ok (.aload_n 0, 1) := by decide +kernel
theorem dJ0_getBytes_840e7_29 : decode cJ0_getBytes_840e7 29 = .ok (.getfield 9, 3) := by decide +kernel
theorem dJ0_getBytes_840e7_32 : decode cJ0_getBytes_840e7 32 = .ok (.iconst 0, 1) := by decide +kernel
theorem dJ0_getBytes_840e7_33 : decode cJ0_getBytes_840e7 33 = .ok (.aload_n 1, 1) := by decide +kernel
theorem dJ0_getBytes_840e7_34 : decode cJ0_getBytes_840e7 34 = .ok (.iload_n 2, 1) := by decide +kernel
theorem dJ0_getBytes_840e7_35 : decode cJ0_getBytes_840e7 35 = .ok (.aload_n 0, 1) := by decide +kernel
theorem dJ0_getBytes_840e7_36 : decode cJ0_getBytes_840e7 36 = .ok (.getfield 9, 3) := by decide +kernel
theorem dJ0_getBytes_840e7_39 : decode cJ0_getBytes_840e7 39 = .ok (.arraylength, 1) := by decide +kernel
theorem dJ0_getBytes_840e7_40 : decode cJ0_getBytes_840e7 40 = .ok (.invokestatic 106, 3) := by decide +kernel
theorem dJ0_getBytes_840e7_43 : decode cJ0_getBytes_840e7 43 = .ok (.return_, 1) := by decide +kernel
theorem dJ0_init_db425_0 : decode cJ0_init_db425 0 = .ok (.aload_n 0, 1) := by decide +kernel
theorem dJ0_init_db425_1 : decode cJ0_init_db425 1 = .ok (.invokespecial 1, 3) := by decide +kernel
theorem dJ0_init_db425_4 : decode cJ0_init_db425 4 = .ok (.aload_n 1, 1) := by decide +kernel
theorem dJ0_init_db425_5 : decode cJ0_init_db425 5 = .ok (.invokevirtual 552, 3) := by decide +kernel
theorem dJ0_init_db425_8 : decode cJ0_init_db425 8 = .ok (.astore_n 3, 1) := by decide +kernel
theorem dJ0_init_db425_9 : decode cJ0_init_db425 9 = .ok (.aload_n 1, 1) := by decide +kernel
theorem dJ0_init_db425_10 : decode cJ0_init_db425 10 = .ok (.invokevirtual 549, 3) := by decide +kernel
theorem dJ0_init_db425_13 : decode cJ0_init_db425 13 = .ok (.istore 4, 2) := by decide +kernel
theorem dJ0_init_db425_15 : decode cJ0_init_db425 15 = .ok (.aload_n 1, 1) := by decide +kernel
theorem dJ0_init_db425_16 : decode cJ0_init_db425 16 = .ok (.invokevirtual 1047, 3) := by decide +kernel
theorem dJ0_init_db425_19 : decode cJ0_init_db425 19 = .ok (.ifCond .eq 22, 3) := by decide +kernel
theorem dJ0_init_db425_22 : decode cJ0_init_db425 22 = .ok (.aload_n 0, 1) := by decide +kernel
theorem dJ0_init_db425_23 : decode cJ0_init_db425 23 = .ok (.iconst 0, 1) := by decide +kernel
theorem dJ0_init_db425_24 : decode cJ0_init_db425 24 = .ok (.putfield 15, 3) := by decide +kernel
theorem dJ0_init_db425_27 : decode cJ0_init_db425 27 = .ok (.aload_n 0, 1) := by decide +kernel
theorem dJ0_init_db425_28 : decode cJ0_init_db425 28 = .ok (.aload_n 3, 1) := by decide +kernel
theorem dJ0_init_db425_29 : decode cJ0_init_db425 29 = .ok (.iconst 0, 1) := by decide +kernel
theorem dJ0_init_db425_30 : decode cJ0_init_db425 30 = .ok (.iload 4, 2) := by decide +kernel
theorem dJ0_init_db425_32 : decode cJ0_init_db425 32 = .ok (.invokestatic 54, 3) := by decide +kernel
theorem dJ0_init_db425_35 : decode cJ0_init_db425 35 = .ok (.putfield 9, 3) := by decide +kernel
theorem dJ0_init_db425_38 : decode cJ0_init_db425 38 = .ok (.goto 59, 3) := by decide +kernel
theorem dJ0_init_db425_41 : decode cJ0_init_db425 41 = .ok (.getstatic 38, 3) := by decide +kernel
theorem dJ0_init_db425_44 : decode cJ0_init_db425 44 = .ok (.ifCond .eq 35, 3) := by decide +kernel
theorem dJ0_init_db425_47 : decode cJ0_init_db425 47 = .ok (.aload_n 1, 1) := by decide +kernel
theorem dJ0_init_db425_48 : decode cJ0_init_db425 48 = .ok (.getfield 1048, 3) := by decide +kernel
theorem dJ0_init_db425_51 : decode cJ0_init_db425 51 = .ok (.ifCond .eq 28, 3) := by decide +kernel
theorem dJ0_init_db425_54 : decode cJ0_init_db425 54 = .ok (.aload_n 0, 1) := by decide +kernel
theorem dJ0_init_db425_55 : decode cJ0_init_db425 55 = .ok (.aload_n 3, 1) := by decide +kernel
theorem dJ0_init_db425_56 : decode cJ0_init_db425 56 = .ok (.iconst 0, 1) := by decide +kernel
theorem dJ0_init_db425_57 : decode cJ0_init_db425 57 = .ok (.iload 4, 2) := by decide +kernel
theorem dJ0_init_db425_59 : decode cJ0_init_db425 59 = .ok (.invokestatic 1051, 3) := by decide +kernel
theorem dJ0_init_db425_62 : decode cJ0_init_db425 62 = .ok (.putfield 9, 3) := by decide +kernel
theorem dJ0_init_db425_65 : decode cJ0_init_db425 65 = .ok (.aload_n 0, 1) := by decide +kernel
theorem dJ0_init_db425_66 : decode cJ0_init_db425 66 = .ok (.aload_n 0, 1) := by decide +kernel
theorem dJ0_init_db425_67 : decode cJ0_init_db425 67 = .ok (.getfield 9, 3) := by decide +kernel
theorem dJ0_init_db425_70 : decode cJ0_init_db425 70 = .ok (.iload 4, 2) := by decide +kernel
theorem dJ0_init_db425_72 : decode cJ0_init_db425 72 = .ok (.invokestatic 47, 3) := by decide +kernel
theorem dJ0_init_db425_75 : decode cJ0_init_db425 75 = .ok (.putfield 15, 3) := by decide +kernel
theorem dJ0_init_db425_78 : decode cJ0_init_db425 78 = .ok (.return_, 1) := by decide +kernel
theorem dJ0_init_db425_79 : decode cJ0_init_db425 79 = .ok (.aload_n 0, 1) := by decide +kernel
theorem dJ0_init_db425_80 : decode cJ0_init_db425 80 = .ok (.iconst 1, 1) := by decide +kernel
theorem dJ0_init_db425_81 : decode cJ0_init_db425 81 = .ok (.putfield 15, 3) := by decide +kernel
theorem dJ0_init_db425_84 : decode cJ0_init_db425 84 = .ok (.aload_n 0, 1) := by decide +kernel
theorem dJ0_init_db425_85 : decode cJ0_init_db425 85 = .ok (.aload_n 3, 1) := by decide +kernel
theorem dJ0_init_db425_86 : decode cJ0_init_db425 86 = .ok (.iconst 0, 1) := by decide +kernel
theorem dJ0_init_db425_87 : decode cJ0_init_db425 87 = .ok (.iload 4, 2) := by decide +kernel
theorem dJ0_init_db425_89 : decode cJ0_init_db425 89 = .ok (.iconst 1, 1) := by decide +kernel
theorem dJ0_init_db425_90 : decode cJ0_init_db425 90 = .ok (.ishl, 1) := by decide +kernel
theorem dJ0_init_db425_91 : decode cJ0_init_db425 91 = .ok (.invokestatic 54, 3) := by decide +kernel
theorem dJ0_init_db425_94 : decode cJ0_init_db425 94 = .ok (.putfield 9, 3) := by decide +kernel
theorem dJ0_init_db425_97 : decode cJ0_init_db425 97 = .ok (.return_, 1) := by decide +kernel
theorem dJ0_coder_7d493_0 : decode cJ0_coder_7d493 0 = .ok (.getstatic 38, 3) := by decide +kernel
theorem dJ0_coder_7d493_3 : decode cJ0_coder_7d493 3 = .ok (.ifCond .eq 10, 3) := by decide +kernel
theorem dJ0_coder_7d493_6 : decode cJ0_coder_7d493 6 = .ok (.aload_n 0, 1) := by decide +kernel
theorem dJ0_coder_7d493_7 : decode cJ0_coder_7d493 7 = .ok (.getfield 15, 3) := by decide +kernel
theorem dJ0_coder_7d493_10 : decode cJ0_coder_7d493 10 = .ok (.goto 4, 3) := by decide +kernel
theorem dJ0_coder_7d493_13 : decode cJ0_coder_7d493 13 = .ok (.iconst 1, 1) := by decide +kernel
theorem dJ0_coder_7d493_14 : decode cJ0_coder_7d493 14 = .ok (.ireturn, 1) := by decide +kernel
theorem dJ0_isLatin1_aae02_0 : decode cJ0_isLatin1_aae02 0 = .ok (.getstatic 38, 3) := by decide +kernel
theorem dJ0_isLatin1_aae02_3 : decode cJ0_isLatin1_aae02 3 = .ok (.ifCond .eq 14, 3) := by decide +kernel
theorem dJ0_isLatin1_aae02_6 : decode cJ0_isLatin1_aae02 6 = .ok (.aload_n 0, 1) := by decide +kernel
theorem dJ0_isLatin1_aae02_7 : decode cJ0_isLatin1_aae02 7 = .ok (.getfield 15, 3) := by decide +kernel
theorem dJ0_isLatin1_aae02_10 : decode cJ0_isLatin1_aae02 10 = .ok (.ifCond .ne 7, 3) := by decide +kernel
theorem dJ0_isLatin1_aae02_13 : decode cJ0_isLatin1_aae02 13 = .ok (.iconst 1, 1) := by decide +kernel
theorem dJ0_isLatin1_aae02_14 : decode cJ0_isLatin1_aae02 14 = .ok (.goto 4, 3) := by decide +kernel
theorem dJ0_isLatin1_aae02_17 : decode cJ0_isLatin1_aae02 17 = .ok (.iconst 0, 1) := by decide +kernel
theorem dJ0_isLatin1_aae02_18 : decode cJ0_isLatin1_aae02 18 = .ok (.ireturn, 1) := by decide +kernel
theorem dJ0_checkIndex_df160_0 : decode cJ0_checkIndex_df160 0 = .ok (.iload_n 0, 1) := by decide +kernel
theorem dJ0_checkIndex_df160_1 : decode cJ0_checkIndex_df160 1 = .ok (.iload_n 1, 1) := by decide +kernel
theorem dJ0_checkIndex_df160_2 : decode cJ0_checkIndex_df160 2 = .ok (.getstatic 1053, 3) := by decide +kernel
theorem dJ0_checkIndex_df160_5 : decode cJ0_checkIndex_df160 5 = .ok (.invokestatic 1059, 3) := by decide +kernel
theorem dJ0_checkIndex_df160_8 : decode cJ0_checkIndex_df160 8 = .ok (.pop, 1) := by decide +kernel
theorem dJ0_checkIndex_df160_9 : decode cJ0_checkIndex_df160 9 = .ok (.return_, 1) := by decide +kernel
theorem dJ0_checkBoundsOffCount_cabcc_0 : decode cJ0_checkBoundsOffCount_cabcc 0 = .ok (.iload_n 0, 1) := by decide +kernel
theorem dJ0_checkBoundsOffCount_cabcc_1 : decode cJ0_checkBoundsOffCount_cabcc 1 = .ok (.iload_n 1, 1) := by decide +kernel
theorem dJ0_checkBoundsOffCount_cabcc_2 : decode cJ0_checkBoundsOffCount_cabcc 2 = .ok (.iload_n 2, 1) := by decide +kernel
theorem dJ0_checkBoundsOffCount_cabcc_3 : decode cJ0_checkBoundsOffCount_cabcc 3 = .ok (.getstatic 1053, 3) := by decide +kernel
theorem dJ0_checkBoundsOffCount_cabcc_6 : decode cJ0_checkBoundsOffCount_cabcc 6 = .ok (.invokestatic 1065, 3) := by decide +kernel
theorem dJ0_checkBoundsOffCount_cabcc_9 : decode cJ0_checkBoundsOffCount_cabcc 9 = .ok (.ireturn, 1) := by decide +kernel
theorem dJ0_checkBoundsBeginEnd_23922_0 : decode cJ0_checkBoundsBeginEnd_23922 0 = .ok (.iload_n 0, 1) := by decide +kernel
theorem dJ0_checkBoundsBeginEnd_23922_1 : decode cJ0_checkBoundsBeginEnd_23922 1 = .ok (.iload_n 1, 1) := by decide +kernel
theorem dJ0_checkBoundsBeginEnd_23922_2 : decode cJ0_checkBoundsBeginEnd_23922 2 = .ok (.iload_n 2, 1) := by decide +kernel
theorem dJ0_checkBoundsBeginEnd_23922_3 : decode cJ0_checkBoundsBeginEnd_23922 3 = .ok (.getstatic 1053, 3) := by decide +kernel
theorem dJ0_checkBoundsBeginEnd_23922_6 : decode cJ0_checkBoundsBeginEnd_23922 6 = .ok (.invokestatic 1062, 3) := by decide +kernel
theorem dJ0_checkBoundsBeginEnd_23922_9 : decode cJ0_checkBoundsBeginEnd_23922 9 = .ok (.pop, 1) := by decide +kernel
theorem dJ0_checkBoundsBeginEnd_23922_10 : decode cJ0_checkBoundsBeginEnd_23922 10 = .ok (.return_, 1) := by decide +kernel
theorem dJ4_init_da8c8_0 : decode cJ4_init_da8c8 0 = .ok (.aload_n 0, 1) := by decide +kernel
theorem dJ4_init_da8c8_1 : decode cJ4_init_da8c8 1 = .ok (.bipush 16, 2) := by decide +kernel
theorem dJ4_init_da8c8_3 : decode cJ4_init_da8c8 3 = .ok (.invokespecial 1, 3) := by decide +kernel
theorem dJ4_init_da8c8_6 : decode cJ4_init_da8c8 6 = .ok (.return_, 1) := by decide +kernel
theorem dJ4_init_a7421_0 : decode cJ4_init_a7421 0 = .ok (.aload_n 0, 1) := by decide +kernel
theorem dJ4_init_a7421_1 : decode cJ4_init_a7421 1 = .ok (.aload_n 1, 1) := by decide +kernel
theorem dJ4_init_a7421_2 : decode cJ4_init_a7421 2 = .ok (.invokespecial 7, 3) := by decide +kernel
theorem dJ4_init_a7421_5 : decode cJ4_init_a7421 5 = .ok (.return_, 1) := by decide +kernel
theorem dJ4_append_15ec4_0 : decode cJ4_append_15ec4 0 = .ok (.aload_n 0, 1) := by decide +kernel
theorem dJ4_append_15ec4_1 : decode cJ4_append_15ec4 1 = .ok (.aload_n 1, 1) := by decide +kernel
theorem dJ4_append_15ec4_2 : decode cJ4_append_15ec4 2 = .ok (.invokespecial 29, 3) := by decide +kernel
theorem dJ4_append_15ec4_5 : decode cJ4_append_15ec4 5 = .ok (.pop, 1) := by decide +kernel
theorem dJ4_append_15ec4_6 : decode cJ4_append_15ec4 6 = .ok (.aload_n 0, 1) := by decide +kernel
theorem dJ4_append_15ec4_7 : decode cJ4_append_15ec4 7 = .ok (.areturn, 1) := by decide +kernel
theorem dJ4_append_cf468_0 : decode cJ4_append_cf468 0 = .ok (.aload_n 0, 1) := by decide +kernel
theorem dJ4_append_cf468_1 : decode cJ4_append_cf468 1 = .ok (.iload_n 1, 1) := by decide +kernel
theorem dJ4_append_cf468_2 : decode cJ4_append_cf468 2 = .ok (.invokespecial 50, 3) := by decide +kernel
theorem dJ4_append_cf468_5 : decode cJ4_append_cf468 5 = .ok (.pop, 1) := by decide +kernel
theorem dJ4_append_cf468_6 : decode cJ4_append_cf468 6 = .ok (.aload_n 0, 1) := by decide +kernel
theorem dJ4_append_cf468_7 : decode cJ4_append_cf468 7 = .ok (.areturn, 1) := by decide +kernel
theorem dJ4_append_bf812_0 : decode cJ4_append_bf812 0 = .ok (.aload_n 0, 1) := by decide +kernel
theorem dJ4_append_bf812_1 : decode cJ4_append_bf812 1 = .ok (.iload_n 1, 1) := by decide +kernel
theorem dJ4_append_bf812_2 : decode cJ4_append_bf812 2 = .ok (.invokespecial 53, 3) := by decide +kernel
theorem dJ4_append_bf812_5 : decode cJ4_append_bf812 5 = .ok (.pop, 1) := by decide +kernel
theorem dJ4_append_bf812_6 : decode cJ4_append_bf812 6 = .ok (.aload_n 0, 1) := by decide +kernel
theorem dJ4_append_bf812_7 : decode cJ4_append_bf812 7 = .ok (.areturn, 1) := by decide +kernel
theorem dJ4_toString_0e30d_0 : decode cJ4_toString_0e30d 0 = .ok (.new 18, 3) := by decide +kernel
theorem dJ4_toString_0e30d_3 : decode cJ4_toString_0e30d 3 = .ok (.dup, 1) := by decide +kernel
theorem dJ4_toString_0e30d_4 : decode cJ4_toString_0e30d 4 = .ok (.aload_n 0, 1) := by decide +kernel
theorem dJ4_toString_0e30d_5 : decode cJ4_toString_0e30d 5 = .ok (.invokespecial 137, 3) := by decide +kernel
theorem dJ4_toString_0e30d_8 : decode cJ4_toString_0e30d 8 = .ok (.areturn, 1) := by decide +kernel
theorem dJ4_append_cf1ce_0 : decode cJ4_append_cf1ce 0 = .ok (.aload_n 0, 1) := by decide +kernel
theorem dJ4_append_cf1ce_1 : decode cJ4_append_cf1ce 1 = .ok (.aload_n 1, 1) := by decide +kernel
theorem dJ4_append_cf1ce_2 : decode cJ4_append_cf1ce 2 = .ok (.invokevirtual 23, 3) := by decide +kernel
theorem dJ4_append_cf1ce_5 : decode cJ4_append_cf1ce 5 = .ok (.areturn, 1) := by decide +kernel
theorem dJ4_length_8abf5_0 : decode cJ4_length_8abf5 0 = .ok (.aload_n 0, 1) := by decide +kernel
theorem dJ4_length_8abf5_1 : decode cJ4_length_8abf5 1 = .ok (.invokespecial 343, 3) := by decide +kernel
theorem dJ4_length_8abf5_4 : decode cJ4_length_8abf5 4 = .ok (.ireturn, 1) := by decide +kernel
theorem dJ1_charAt_3b067_0 : decode cJ1_charAt_3b067 0 = .ok (.iload_n 1, 1) := by decide +kernel
theorem dJ1_charAt_3b067_1 : decode cJ1_charAt_3b067 1 = .ok (.aload_n 0, 1) := by decide +kernel
theorem dJ1_charAt_3b067_2 : decode cJ1_charAt_3b067 2 = .ok (.arraylength, 1) := by decide +kernel
theorem dJ1_charAt_3b067_3 : decode cJ1_charAt_3b067 3 = .ok (.invokestatic 9, 3) := by decide +kernel
theorem dJ1_charAt_3b067_6 : decode cJ1_charAt_3b067 6 = .ok (.aload_n 0, 1) := by decide +kernel
theorem dJ1_charAt_3b067_7 : decode cJ1_charAt_3b067 7 = .ok (.iload_n 1, 1) := by decide +kernel
theorem dJ1_charAt_3b067_8 : decode cJ1_charAt_3b067 8 = .ok (.baload, 1) := by decide +kernel
theorem dJ1_charAt_3b067_9 : decode cJ1_charAt_3b067 9 = .ok (.sipush 255, 3) := by decide +kernel
theorem dJ1_charAt_3b067_12 : decode cJ1_charAt_3b067 12 = .ok (.iand, 1) := by decide +kernel
theorem dJ1_charAt_3b067_13 : decode cJ1_charAt_3b067 13 = .ok (.i2c, 1) := by decide +kernel
theorem dJ1_charAt_3b067_14 : decode cJ1_charAt_3b067 14 = .ok (.ireturn, 1) := by decide +kernel
theorem dJ1_canEncode_fc78d_0 : decode cJ1_canEncode_fc78d 0 = .ok (.iload_n 0, 1) := by decide +kernel
theorem dJ1_canEncode_fc78d_1 : decode cJ1_canEncode_fc78d 1 = .ok (.sipush 255, 3) := by decide +kernel
theorem dJ1_canEncode_fc78d_4 : decode cJ1_canEncode_fc78d 4 = .ok (.if_icmp .gt 7, 3) := by decide +kernel
theorem dJ1_canEncode_fc78d_7 : decode cJ1_canEncode_fc78d 7 = .ok (.iconst 1, 1) := by decide +kernel
theorem dJ1_canEncode_fc78d_8 : decode cJ1_canEncode_fc78d 8 = .ok (.goto 4, 3) := by decide +kernel
theorem dJ1_canEncode_fc78d_11 : decode cJ1_canEncode_fc78d 11 = .ok (.iconst 0, 1) := by decide +kernel
theorem dJ1_canEncode_fc78d_12 : decode cJ1_canEncode_fc78d 12 = .ok (.ireturn, 1) := by decide +kernel
theorem dJ1_inflate_0e8fd_0 : decode cJ1_inflate_0e8fd 0 = .ok (.aload_n 0, 1) := by decide +kernel
theorem dJ1_inflate_0e8fd_1 : decode cJ1_inflate_0e8fd 1 = .ok (.iload_n 1, 1) := by decide +kernel
theorem dJ1_inflate_0e8fd_2 : decode cJ1_inflate_0e8fd 2 = .ok (.aload_n 2, 1) := by decide +kernel
theorem dJ1_inflate_0e8fd_3 : decode cJ1_inflate_0e8fd 3 = .ok (.iload_n 3, 1) := by decide +kernel
theorem dJ1_inflate_0e8fd_4 : decode cJ1_inflate_0e8fd 4 = .ok (.iload 4, 2) := by decide +kernel
theorem dJ1_inflate_0e8fd_6 : decode cJ1_inflate_0e8fd 6 = .ok (.invokestatic 240, 3) := by decide +kernel
theorem dJ1_inflate_0e8fd_9 : decode cJ1_inflate_0e8fd 9 = .ok (.return_, 1) := by decide +kernel
theorem dJ2_newBytesFor_77867_0 : decode cJ2_newBytesFor_77867 0 = .ok (.iload_n 0, 1) := by decide +kernel
theorem dJ2_newBytesFor_77867_1 : decode cJ2_newBytesFor_77867 1 = .ok (.invokestatic 11, 3) := by decide +kernel
theorem dJ2_newBytesFor_77867_4 : decode cJ2_newBytesFor_77867 4 = .ok (.newarray .byte, 2) := by decide +kernel
theorem dJ2_newBytesFor_77867_6 : decode cJ2_newBytesFor_77867 6 = .ok (.areturn, 1) := by decide +kernel
theorem dJ2_newBytesLength_0f7a4_0 : decode cJ2_newBytesLength_0f7a4 0 = .ok (.iload_n 0, 1) := by decide +kernel
theorem dJ2_newBytesLength_0f7a4_1 : decode cJ2_newBytesLength_0f7a4 1 = .ok (.ifCond .ge 11, 3) := by decide +kernel
theorem dJ2_newBytesLength_0f7a4_4 : decode cJ2_newBytesLength_0f7a4 4 = .ok (.new 17, 3) := by decide +kernel
theorem dJ2_newBytesLength_0f7a4_7 : decode cJ2_newBytesLength_0f7a4 7 = .ok (.dup, 1) := by decide +kernel
theorem dJ2_newBytesLength_0f7a4_8 : decode cJ2_newBytesLength_0f7a4 8 = .ok (.invokespecial 19, 3) := by decide +kernel
theorem dJ2_newBytesLength_0f7a4_11 : decode cJ2_newBytesLength_0f7a4 11 = .ok (.athrow, 1) := by decide +kernel
theorem dJ2_newBytesLength_0f7a4_12 : decode cJ2_newBytesLength_0f7a4 12 = .ok (.iload_n 0, 1) := by decide +kernel
theorem dJ2_newBytesLength_0f7a4_13 : decode cJ2_newBytesLength_0f7a4 13 = .ok (.ldc 20, 2) := by decide +kernel
theorem dJ2_newBytesLength_0f7a4_15 : decode cJ2_newBytesLength_0f7a4 15 = .ok (.if_icmp .lt 40, 3) := by decide +kernel
theorem dJ2_newBytesLength_0f7a4_18 : decode cJ2_newBytesLength_0f7a4 18 = .ok (.new 21, 3) := by decide +kernel
theorem dJ2_newBytesLength_0f7a4_21 : decode cJ2_newBytesLength_0f7a4 21 = .ok (.dup, 1) := by decide +kernel
theorem dJ2_newBytesLength_0f7a4_22 : decode cJ2_newBytesLength_0f7a4 22 = .ok (.new 23, 3) := by decide +kernel
theorem dJ2_newBytesLength_0f7a4_25 : decode cJ2_newBytesLength_0f7a4 25 = .ok (.dup, 1) := by decide +kernel
theorem dJ2_newBytesLength_0f7a4_26 : decode cJ2_newBytesLength_0f7a4 26 = .ok (.invokespecial 25, 3) := by decide +kernel
theorem dJ2_newBytesLength_0f7a4_29 : decode cJ2_newBytesLength_0f7a4 29 = .ok (.ldc 26, 2) := by decide +kernel
theorem dJ2_newBytesLength_0f7a4_31 : decode cJ2_newBytesLength_0f7a4 31 = .ok (.invokevirtual 28, 3) := by decide +kernel
theorem dJ2_newBytesLength_0f7a4_34 : decode cJ2_newBytesLength_0f7a4 34 = .ok (.iload_n 0, 1) := by decide +kernel
theorem dJ2_newBytesLength_0f7a4_35 : decode cJ2_newBytesLength_0f7a4 35 = .ok (.invokevirtual 32, 3) := by decide +kernel
theorem dJ2_newBytesLength_0f7a4_38 : decode cJ2_newBytesLength_0f7a4 38 = .ok (.ldc 35, 2) := by decide +kernel
theorem dJ2_newBytesLength_0f7a4_40 : decode cJ2_newBytesLength_0f7a4 40 = .ok (.invokevirtual 28, 3) := by decide +kernel
theorem dJ2_newBytesLength_0f7a4_43 : decode cJ2_newBytesLength_0f7a4 43 = .ok (.ldc 20, 2) := by decide +kernel
theorem dJ2_newBytesLength_0f7a4_45 : decode cJ2_newBytesLength_0f7a4 45 = .ok (.invokevirtual 32, 3) := by decide +kernel
theorem dJ2_newBytesLength_0f7a4_48 : decode cJ2_newBytesLength_0f7a4 48 = .ok (.invokevirtual 37, 3) := by decide +kernel
theorem dJ2_newBytesLength_0f7a4_51 : decode cJ2_newBytesLength_0f7a4 51 = .ok (.invokespecial 41, 3) := by decide +kernel
theorem dJ2_newBytesLength_0f7a4_54 : decode cJ2_newBytesLength_0f7a4 54 = .ok (.athrow, 1) := by decide +kernel
theorem dJ2_newBytesLength_0f7a4_55 : decode cJ2_newBytesLength_0f7a4 55 = .ok (.iload_n 0, 1) := by decide +kernel
theorem dJ2_newBytesLength_0f7a4_56 : decode cJ2_newBytesLength_0f7a4 56 = .ok (.iconst 1, 1) := by decide +kernel
theorem dJ2_newBytesLength_0f7a4_57 : decode cJ2_newBytesLength_0f7a4 57 = .ok (.ishl, 1) := by decide +kernel
theorem dJ2_newBytesLength_0f7a4_58 : decode cJ2_newBytesLength_0f7a4 58 = .ok (.ireturn, 1) := by decide +kernel
theorem dJ2_putChar_b72d1_0 : decode cJ2_putChar_b72d1 0 = .ok (.getstatic 44, 3) := by decide +kernel
theorem dJ2_putChar_b72d1_3 : decode cJ2_putChar_b72d1 3 = .ok (.ifCond .ne 25, 3) := by decide +kernel
theorem dJ2_putChar_b72d1_6 : decode cJ2_putChar_b72d1 6 = .ok (.iload_n 1, 1) := by decide +kernel
theorem dJ2_putChar_b72d1_7 : decode cJ2_putChar_b72d1 7 = .ok (.ifCond .lt 11, 3) := by decide +kernel
theorem dJ2_putChar_b72d1_10 : decode cJ2_putChar_b72d1 10 = .ok (.iload_n 1, 1) := by decide +kernel
theorem dJ2_putChar_b72d1_11 : decode cJ2_putChar_b72d1 11 = .ok (.aload_n 0, 1) := by decide +kernel
theorem dJ2_putChar_b72d1_12 : decode cJ2_putChar_b72d1 12 = .ok (.invokestatic 48, 3) := by decide +kernel
theorem dJ2_putChar_b72d1_15 : decode cJ2_putChar_b72d1 15 = .ok (.if_icmp .lt 13, 3) := by decide +kernel
theorem dJ2_putChar_b72d1_18 : decode cJ2_putChar_b72d1 18 = .ok (.new 52, 3) := by decide +kernel
theorem dJ2_putChar_b72d1_21 : decode cJ2_putChar_b72d1 21 = .ok (.dup, 1) := by decide +kernel
theorem dJ2_putChar_b72d1_22 : decode cJ2_putChar_b72d1 22 = .ok (.ldc 54, 2) := by decide +kernel
theorem dJ2_putChar_b72d1_24 : decode cJ2_putChar_b72d1 24 = .ok (.invokespecial 56, 3) := by decide +kernel
theorem dJ2_putChar_b72d1_27 : decode cJ2_putChar_b72d1 27 = .ok (.athrow, 1) := by decide +kernel
theorem dJ2_putChar_b72d1_28 : decode cJ2_putChar_b72d1 28 = .ok (.iload_n 1, 1) := by decide +kernel
theorem dJ2_putChar_b72d1_29 : decode cJ2_putChar_b72d1 29 = .ok (.iconst 1, 1) := by decide +kernel
theorem dJ2_putChar_b72d1_30 : decode cJ2_putChar_b72d1 30 = .ok (.ishl, 1) := by decide +kernel
theorem dJ2_putChar_b72d1_31 : decode cJ2_putChar_b72d1 31 = .ok (.istore_n 1, 1) := by decide +kernel
theorem dJ2_putChar_b72d1_32 : decode cJ2_putChar_b72d1 32 = .ok (.aload_n 0, 1) := by decide +kernel
theorem dJ2_putChar_b72d1_33 : decode cJ2_putChar_b72d1 33 = .ok (.iload_n 1, 1) := by decide +kernel
theorem dJ2_putChar_b72d1_34 : decode cJ2_putChar_b72d1 34 = .ok (.iinc 1 1, 3) := by decide +kernel
theorem dJ2_putChar_b72d1_37 : decode cJ2_putChar_b72d1 37 = .ok (.iload_n 2, 1) := by decide +kernel
theorem dJ2_putChar_b72d1_38 : decode cJ2_putChar_b72d1 38 = .ok (.getstatic 59, 3) := by decide +kernel
theorem dJ2_putChar_b72d1_41 : decode cJ2_putChar_b72d1 41 = .ok (.ishr, 1) := by decide +kernel
theorem dJ2_putChar_b72d1_42 : decode cJ2_putChar_b72d1 42 = .ok (.i2b, 1) := by decide +kernel
theorem dJ2_putChar_b72d1_43 : decode cJ2_putChar_b72d1 43 = .ok (.bastore, 1) := by decide +kernel
theorem dJ2_putChar_b72d1_44 : decode cJ2_putChar_b72d1 44 = .ok (.aload_n 0, 1) := by decide +kernel
theorem dJ2_putChar_b72d1_45 : decode cJ2_putChar_b72d1 45 = .ok (.iload_n 1, 1) := by decide +kernel
theorem dJ2_putChar_b72d1_46 : decode cJ2_putChar_b72d1 46 = .ok (.iload_n 2, 1) := by decide +kernel
theorem dJ2_putChar_b72d1_47 : decode cJ2_putChar_b72d1 47 = .ok (.getstatic 63, 3) := by decide +kernel
theorem dJ2_putChar_b72d1_50 : decode cJ2_putChar_b72d1 50 = .ok (.ishr, 1) := by decide +kernel
theorem dJ2_putChar_b72d1_51 : decode cJ2_putChar_b72d1 51 = .ok (.i2b, 1) := by decide +kernel
theorem dJ2_putChar_b72d1_52 : decode cJ2_putChar_b72d1 52 = .ok (.bastore, 1) := by decide +kernel
theorem dJ2_putChar_b72d1_53 : decode cJ2_putChar_b72d1 53 = .ok (.return_, 1) := by decide +kernel
theorem dJ2_getChar_3b067_0 : decode cJ2_getChar_3b067 0 = .ok (.getstatic 44, 3) := by decide +kernel
theorem dJ2_getChar_3b067_3 : decode cJ2_getChar_3b067 3 = .ok (.ifCond .ne 25, 3) := by decide +kernel
theorem dJ2_getChar_3b067_6 : decode cJ2_getChar_3b067 6 = .ok (.iload_n 1, 1) := by decide +kernel
theorem dJ2_getChar_3b067_7 : decode cJ2_getChar_3b067 7 = .ok (.ifCond .lt 11, 3) := by decide +kernel
theorem dJ2_getChar_3b067_10 : decode cJ2_getChar_3b067 10 = .ok (.iload_n 1, 1) := by decide +kernel
theorem dJ2_getChar_3b067_11 : decode cJ2_getChar_3b067 11 = .ok (.aload_n 0, 1) := by decide +kernel
theorem dJ2_getChar_3b067_12 : decode cJ2_getChar_3b067 12 = .ok (.invokestatic 48, 3) := by decide +kernel
theorem dJ2_getChar_3b067_15 : decode cJ2_getChar_3b067 15 = .ok (.if_icmp .lt 13, 3) := by decide +kernel
theorem dJ2_getChar_3b067_18 : decode cJ2_getChar_3b067 18 = .ok (.new 52, 3) := by decide +kernel
theorem dJ2_getChar_3b067_21 : decode cJ2_getChar_3b067 21 = .ok (.dup, 1) := by decide +kernel
theorem dJ2_getChar_3b067_22 : decode cJ2_getChar_3b067 22 = .ok (.ldc 54, 2) := by decide +kernel
theorem dJ2_getChar_3b067_24 : decode cJ2_getChar_3b067 24 = .ok (.invokespecial 56, 3) := by decide +kernel
theorem dJ2_getChar_3b067_27 : decode cJ2_getChar_3b067 27 = .ok (.athrow, 1) := by decide +kernel
theorem dJ2_getChar_3b067_28 : decode cJ2_getChar_3b067 28 = .ok (.iload_n 1, 1) := by decide +kernel
theorem dJ2_getChar_3b067_29 : decode cJ2_getChar_3b067 29 = .ok (.iconst 1, 1) := by decide +kernel
theorem dJ2_getChar_3b067_30 : decode cJ2_getChar_3b067 30 = .ok (.ishl, 1) := by decide +kernel
theorem dJ2_getChar_3b067_31 : decode cJ2_getChar_3b067 31 = .ok (.istore_n 1, 1) := by decide +kernel
theorem dJ2_getChar_3b067_32 : decode cJ2_getChar_3b067 32 = .ok (.aload_n 0, 1) := by decide +kernel
theorem dJ2_getChar_3b067_33 : decode cJ2_getChar_3b067 33 = .ok (.iload_n 1, 1) := by decide +kernel
theorem dJ2_getChar_3b067_34 : decode cJ2_getChar_3b067 34 = .ok (.iinc 1 1, 3) := by decide +kernel
theorem dJ2_getChar_3b067_37 : decode cJ2_getChar_3b067 37 = .ok (.baload, 1) := by decide +kernel
theorem dJ2_getChar_3b067_38 : decode cJ2_getChar_3b067 38 = .ok (.sipush 255, 3) := by decide +kernel
theorem dJ2_getChar_3b067_41 : decode cJ2_getChar_3b067 41 = .ok (.iand, 1) := by decide +kernel
theorem dJ2_getChar_3b067_42 : decode cJ2_getChar_3b067 42 = .ok (.getstatic 59, 3) := by decide +kernel
theorem dJ2_getChar_3b067_45 : decode cJ2_getChar_3b067 45 = .ok (.ishl, 1) := by decide +kernel
theorem dJ2_getChar_3b067_46 : decode cJ2_getChar_3b067 46 = .ok (.aload_n 0, 1) := by decide +kernel
theorem dJ2_getChar_3b067_47 : decode cJ2_getChar_3b067 47 = .ok (.iload_n 1, 1) := by decide +kernel
theorem dJ2_getChar_3b067_48 : decode cJ2_getChar_3b067 48 = .ok (.baload, 1) := by decide +kernel
theorem dJ2_getChar_3b067_49 : decode cJ2_getChar_3b067 49 = .ok (.sipush 255, 3) := by decide +kernel
theorem dJ2_getChar_3b067_52 : decode cJ2_getChar_3b067 52 = .ok (.iand, 1) := by decide +kernel
theorem dJ2_getChar_3b067_53 : decode cJ2_getChar_3b067 53 = .ok (.getstatic 63, 3) := by decide +kernel
theorem dJ2_getChar_3b067_56 : decode cJ2_getChar_3b067 56 = .ok (.ishl, 1) := by decide +kernel
theorem dJ2_getChar_3b067_57 : decode cJ2_getChar_3b067 57 = .ok (.ior, 1) := by decide +kernel
theorem dJ2_getChar_3b067_58 : decode cJ2_getChar_3b067 58 = .ok (.i2c, 1) := by decide +kernel
theorem dJ2_getChar_3b067_59 : decode cJ2_getChar_3b067 59 = .ok (.ireturn, 1) := by decide +kernel
theorem dJ2_length_9d52b_0 : decode cJ2_length_9d52b 0 = .ok (.aload_n 0, 1) := by decide +kernel
theorem dJ2_length_9d52b_1 : decode cJ2_length_9d52b 1 = .ok (.arraylength, 1) := by decide +kernel
theorem dJ2_length_9d52b_2 : decode cJ2_length_9d52b 2 = .ok (.iconst 1, 1) := by decide +kernel
theorem dJ2_length_9d52b_3 : decode cJ2_length_9d52b 3 = .ok (.ishr, 1) := by decide +kernel
theorem dJ2_length_9d52b_4 : decode cJ2_length_9d52b 4 = .ok (.ireturn, 1) := by decide +kernel
theorem dJ2_coderFromArrayLen_85cad_0 : decode cJ2_coderFromArrayLen_85cad 0 = .ok (.iload_n 1, 1) := by decide +kernel
theorem dJ2_coderFromArrayLen_85cad_1 : decode cJ2_coderFromArrayLen_85cad 1 = .ok (.aload_n 0, 1) := by decide +kernel
theorem dJ2_coderFromArrayLen_85cad_2 : decode cJ2_coderFromArrayLen_85cad 2 = .ok (.arraylength, 1) := by decide +kernel
theorem dJ2_coderFromArrayLen_85cad_3 : decode cJ2_coderFromArrayLen_85cad 3 = .ok (.isub, 1) := by decide +kernel
theorem dJ2_coderFromArrayLen_85cad_4 : decode cJ2_coderFromArrayLen_85cad 4 = .ok (.bipush 31, 2) := by decide +kernel
theorem dJ2_coderFromArrayLen_85cad_6 : decode cJ2_coderFromArrayLen_85cad 6 = .ok (.iushr, 1) := by decide +kernel
theorem dJ2_coderFromArrayLen_85cad_7 : decode cJ2_coderFromArrayLen_85cad 7 = .ok (.i2b, 1) := by decide +kernel
theorem dJ2_coderFromArrayLen_85cad_8 : decode cJ2_coderFromArrayLen_85cad 8 = .ok (.ireturn, 1) := by decide +kernel
theorem dJ2_compress_39247_0 : decode cJ2_compress_39247 0 = .ok (.iload_n 2, 1) := by decide +kernel
theorem dJ2_compress_39247_1 : decode cJ2_compress_39247 1 = .ok (.newarray .byte, 2) := by decide +kernel
theorem dJ2_compress_39247_3 : decode cJ2_compress_39247 3 = .ok (.astore_n 3, 1) := by decide +kernel
theorem dJ2_compress_39247_4 : decode cJ2_compress_39247 4 = .ok (.aload_n 0, 1) := by decide +kernel
theorem dJ2_compress_39247_5 : decode cJ2_compress_39247 5 = .ok (.iload_n 1, 1) := by decide +kernel
theorem dJ2_compress_39247_6 : decode cJ2_compress_39247 6 = .ok (.aload_n 3, 1) := by decide +kernel
theorem dJ2_compress_39247_7 : decode cJ2_compress_39247 7 = .ok (.iconst 0, 1) := by decide +kernel
theorem dJ2_compress_39247_8 : decode cJ2_compress_39247 8 = .ok (.iload_n 2, 1) := by decide +kernel
theorem dJ2_compress_39247_9 : decode cJ2_compress_39247 9 = .ok (.invokestatic 123, 3) := by decide +kernel
theorem dJ2_compress_39247_12 : decode cJ2_compress_39247 12 = .ok (.istore 4, 2) := by decide +kernel
theorem dJ2_compress_39247_14 : decode cJ2_compress_39247 14 = .ok (.iload 4, 2) := by decide +kernel
theorem dJ2_compress_39247_16 : decode cJ2_compress_39247 16 = .ok (.iload_n 2, 1) := by decide +kernel
theorem dJ2_compress_39247_17 : decode cJ2_compress_39247 17 = .ok (.if_icmp .eq 47, 3) := by decide +kernel
theorem dJ2_compress_39247_20 : decode cJ2_compress_39247 20 = .ok (.aload_n 0, 1) := by decide +kernel
theorem dJ2_compress_39247_21 : decode cJ2_compress_39247 21 = .ok (.iload_n 1, 1) := by decide +kernel
theorem dJ2_compress_39247_22 : decode cJ2_compress_39247 22 = .ok (.iconst 1, 1) := by decide +kernel
theorem dJ2_compress_39247_23 : decode cJ2_compress_39247 23 = .ok (.ishl, 1) := by decide +kernel
theorem dJ2_compress_39247_24 : decode cJ2_compress_39247 24 = .ok (.iload_n 1, 1) := by decide +kernel
theorem dJ2_compress_39247_25 : decode cJ2_compress_39247 25 = .ok (.iload_n 2, 1) := by decide +kernel
theorem dJ2_compress_39247_26 : decode cJ2_compress_39247 26 = .ok (.iadd, 1) := by decide +kernel
theorem dJ2_compress_39247_27 : decode cJ2_compress_39247 27 = .ok (.invokestatic 11, 3) := by decide +kernel
theorem dJ2_compress_39247_30 : decode cJ2_compress_39247 30 = .ok (.invokestatic 126, 3) := by decide +kernel
theorem dJ2_compress_39247_33 : decode cJ2_compress_39247 33 = .ok (.astore 5, 2) := by decide +kernel
theorem dJ2_compress_39247_35 : decode cJ2_compress_39247 35 = .ok (.aload 5, 2) := by decide +kernel
theorem dJ2_compress_39247_37 : decode cJ2_compress_39247 37 = .ok (.iload 4, 2) := by decide +kernel
theorem dJ2_compress_39247_39 : decode cJ2_compress_39247 39 = .ok (.invokestatic 71, 3) := by decide +kernel
theorem dJ2_compress_39247_42 : decode cJ2_compress_39247 42 = .ok (.sipush 255, 3) := by decide +kernel
theorem dJ2_compress_39247_45 : decode cJ2_compress_39247 45 = .ok (.if_icmp .gt 16, 3) := by decide +kernel
theorem dJ2_compress_39247_48 : decode cJ2_compress_39247 48 = .ok (.aload 5, 2) := by decide +kernel
theorem dJ2_compress_39247_50 : decode cJ2_compress_39247 50 = .ok (.iconst 0, 1) := by decide +kernel
theorem dJ2_compress_39247_51 : decode cJ2_compress_39247 51 = .ok (.aload_n 3, 1) := by decide +kernel
theorem dJ2_compress_39247_52 : decode cJ2_compress_39247 52 = .ok (.iconst 0, 1) := by decide +kernel
theorem dJ2_compress_39247_53 : decode cJ2_compress_39247 53 = .ok (.iload_n 2, 1) := by decide +kernel
theorem dJ2_compress_39247_54 : decode cJ2_compress_39247 54 = .ok (.invokestatic 123, 3) := by decide +kernel
theorem dJ2_compress_39247_57 : decode cJ2_compress_39247 57 = .ok (.iload_n 2, 1) := by decide +kernel
theorem dJ2_compress_39247_58 : decode cJ2_compress_39247 58 = .ok (.if_icmp .eq 6, 3) := by decide +kernel
theorem dJ2_compress_39247_61 : decode cJ2_compress_39247 61 = .ok (.aload 5, 2) := by decide +kernel
theorem dJ2_compress_39247_63 : decode cJ2_compress_39247 63 = .ok (.areturn, 1) := by decide +kernel
theorem dJ2_compress_39247_64 : decode cJ2_compress_39247 64 = .ok (.aload_n 3, 1) := by decide +kernel
theorem dJ2_compress_39247_65 : decode cJ2_compress_39247 65 = .ok (.areturn, 1) := by decide +kernel
theorem dJ2_compress_5af95_0 : decode cJ2_compress_5af95 0 = .ok (.iload_n 1, 1) := by decide +kernel
theorem dJ2_compress_5af95_1 : decode cJ2_compress_5af95 1 = .ok (.iload 4, 2) := by decide +kernel
theorem dJ2_compress_5af95_3 : decode cJ2_compress_5af95 3 = .ok (.aload_n 0, 1) := by decide +kernel
theorem dJ2_compress_5af95_4 : decode cJ2_compress_5af95 4 = .ok (.invokestatic 173, 3) := by decide +kernel
theorem dJ2_compress_5af95_7 : decode cJ2_compress_5af95 7 = .ok (.iconst 0, 1) := by decide +kernel
theorem dJ2_compress_5af95_8 : decode cJ2_compress_5af95 8 = .ok (.istore 5, 2) := by decide +kernel
theorem dJ2_compress_5af95_10 : decode cJ2_compress_5af95 10 = .ok (.iload 5, 2) := by decide +kernel
theorem dJ2_compress_5af95_12 : decode cJ2_compress_5af95 12 = .ok (.iload 4, 2) := by decide +kernel
theorem dJ2_compress_5af95_14 : decode cJ2_compress_5af95 14 = .ok (.if_icmp .ge 39, 3) := by decide +kernel
theorem dJ2_compress_5af95_17 : decode cJ2_compress_5af95 17 = .ok (.aload_n 0, 1) := by decide +kernel
theorem dJ2_compress_5af95_18 : decode cJ2_compress_5af95 18 = .ok (.iload_n 1, 1) := by decide +kernel
theorem dJ2_compress_5af95_19 : decode cJ2_compress_5af95 19 = .ok (.invokestatic 71, 3) := by decide +kernel
theorem dJ2_compress_5af95_22 : decode cJ2_compress_5af95 22 = .ok (.istore 6, 2) := by decide +kernel
theorem dJ2_compress_5af95_24 : decode cJ2_compress_5af95 24 = .ok (.iload 6, 2) := by decide +kernel
theorem dJ2_compress_5af95_26 : decode cJ2_compress_5af95 26 = .ok (.sipush 255, 3) := by decide +kernel
theorem dJ2_compress_5af95_29 : decode cJ2_compress_5af95 29 = .ok (.if_icmp .le 6, 3) := by decide +kernel
theorem dJ2_compress_5af95_32 : decode cJ2_compress_5af95 32 = .ok (.iload 5, 2) := by decide +kernel
theorem dJ2_compress_5af95_34 : decode cJ2_compress_5af95 34 = .ok (.ireturn, 1) := by decide +kernel
theorem dJ2_compress_5af95_35 : decode cJ2_compress_5af95 35 = .ok (.aload_n 2, 1) := by decide +kernel
theorem dJ2_compress_5af95_36 : decode cJ2_compress_5af95 36 = .ok (.iload_n 3, 1) := by decide +kernel
theorem dJ2_compress_5af95_37 : decode cJ2_compress_5af95 37 = .ok (.iload 6, 2) := by decide +kernel
theorem dJ2_compress_5af95_39 : decode cJ2_compress_5af95 39 = .ok (.i2b, 1) := by decide +kernel
theorem dJ2_compress_5af95_40 : decode cJ2_compress_5af95 40 = .ok (.bastore, 1) := by decide +kernel
theorem dJ2_compress_5af95_41 : decode cJ2_compress_5af95 41 = .ok (.iinc 1 1, 3) := by decide +kernel
theorem dJ2_compress_5af95_44 : decode cJ2_compress_5af95 44 = .ok (.iinc 3 1, 3) := by decide +kernel
theorem dJ2_compress_5af95_47 : decode cJ2_compress_5af95 47 = .ok (.iinc 5 1, 3) := by decide +kernel
theorem dJ2_compress_5af95_50 : decode cJ2_compress_5af95 50 = .ok (.goto (-40), 3) := by decide +kernel
theorem dJ2_compress_5af95_53 : decode cJ2_compress_5af95 53 = .ok (.iload 4, 2) := by decide +kernel
theorem dJ2_compress_5af95_55 : decode cJ2_compress_5af95 55 = .ok (.ireturn, 1) := by decide +kernel
theorem dJ2_putCharSB_b72d1_0 : decode cJ2_putCharSB_b72d1 0 = .ok (.iload_n 1, 1) := by decide +kernel
theorem dJ2_putCharSB_b72d1_1 : decode cJ2_putCharSB_b72d1 1 = .ok (.aload_n 0, 1) := by decide +kernel
theorem dJ2_putCharSB_b72d1_2 : decode cJ2_putCharSB_b72d1 2 = .ok (.invokestatic 67, 3) := by decide +kernel
theorem dJ2_putCharSB_b72d1_5 : decode cJ2_putCharSB_b72d1 5 = .ok (.aload_n 0, 1) := by decide +kernel
theorem dJ2_putCharSB_b72d1_6 : decode cJ2_putCharSB_b72d1 6 = .ok (.iload_n 1, 1) := by decide +kernel
theorem dJ2_putCharSB_b72d1_7 : decode cJ2_putCharSB_b72d1 7 = .ok (.iload_n 2, 1) := by decide +kernel
theorem dJ2_putCharSB_b72d1_8 : decode cJ2_putCharSB_b72d1 8 = .ok (.invokestatic 111, 3) := by decide +kernel
theorem dJ2_putCharSB_b72d1_11 : decode cJ2_putCharSB_b72d1 11 = .ok (.return_, 1) := by decide +kernel
theorem dJ2_getChars_46870_0 : decode cJ2_getChars_46870 0 = .ok (.iload_n 1, 1) := by decide +kernel
theorem dJ2_getChars_46870_1 : decode cJ2_getChars_46870 1 = .ok (.iload_n 2, 1) := by decide +kernel
theorem dJ2_getChars_46870_2 : decode cJ2_getChars_46870 2 = .ok (.aload_n 3, 1) := by decide +kernel
theorem dJ2_getChars_46870_3 : decode cJ2_getChars_46870 3 = .ok (.invokestatic 96, 3) := by decide +kernel
theorem dJ2_getChars_46870_6 : decode cJ2_getChars_46870 6 = .ok (.iload_n 0, 1) := by decide +kernel
theorem dJ2_getChars_46870_7 : decode cJ2_getChars_46870 7 = .ok (.iload_n 2, 1) := by decide +kernel
theorem dJ2_getChars_46870_8 : decode cJ2_getChars_46870 8 = .ok (.aload_n 3, 1) := by decide +kernel
theorem dJ2_getChars_46870_9 : decode cJ2_getChars_46870 9 = .ok (.invokestatic 393, 3) := by decide +kernel
theorem dJ2_getChars_46870_12 : decode cJ2_getChars_46870 12 = .ok (.istore 4, 2) := by decide +kernel
theorem dJ2_getChars_46870_14 : decode cJ2_getChars_46870 14 = .ok (.getstatic 44, 3) := by decide +kernel
theorem dJ2_getChars_46870_17 : decode cJ2_getChars_46870 17 = .ok (.ifCond .ne 17, 3) := by decide +kernel
theorem dJ2_getChars_46870_20 : decode cJ2_getChars_46870 20 = .ok (.iload_n 1, 1) := by decide +kernel
theorem dJ2_getChars_46870_21 : decode cJ2_getChars_46870 21 = .ok (.iload 4, 2) := by decide +kernel
theorem dJ2_getChars_46870_23 : decode cJ2_getChars_46870 23 = .ok (.if_icmp .eq 11, 3) := by decide +kernel
theorem dJ2_getChars_46870_26 : decode cJ2_getChars_46870 26 = .ok (.new 52, 3) := by decide +kernel
theorem dJ2_getChars_46870_29 : decode cJ2_getChars_46870 29 = .ok (.dup, 1) := by decide +kernel
theorem dJ2_getChars_46870_30 : decode cJ2_getChars_46870 30 = .ok (.invokespecial 66, 3) := by decide +kernel
theorem dJ2_getChars_46870_33 : decode cJ2_getChars_46870 33 = .ok (.athrow, 1) := by decide +kernel
theorem dJ2_getChars_46870_34 : decode cJ2_getChars_46870 34 = .ok (.iload 4, 2) := by decide +kernel
theorem dJ2_getChars_46870_36 : decode cJ2_getChars_46870 36 = .ok (.ireturn, 1) := by decide +kernel
theorem dJ2_putCharsAt_cd4e5_0 : decode cJ2_putCharsAt_cd4e5 0 = .ok (.iload_n 1, 1) := by decide +kernel
theorem dJ2_putCharsAt_cd4e5_1 : decode cJ2_putCharsAt_cd4e5 1 = .ok (.iconst 4, 1) := by decide +kernel
theorem dJ2_putCharsAt_cd4e5_2 : decode cJ2_putCharsAt_cd4e5 2 = .ok (.iadd, 1) := by decide +kernel
theorem dJ2_putCharsAt_cd4e5_3 : decode cJ2_putCharsAt_cd4e5 3 = .ok (.istore 6, 2) := by decide +kernel
theorem dJ2_putCharsAt_cd4e5_5 : decode cJ2_putCharsAt_cd4e5 5 = .ok (.iload_n 1, 1) := by decide +kernel
theorem dJ2_putCharsAt_cd4e5_6 : decode cJ2_putCharsAt_cd4e5 6 = .ok (.iload 6, 2) := by decide +kernel
theorem dJ2_putCharsAt_cd4e5_8 : decode cJ2_putCharsAt_cd4e5 8 = .ok (.aload_n 0, 1) := by decide +kernel
theorem dJ2_putCharsAt_cd4e5_9 : decode cJ2_putCharsAt_cd4e5 9 = .ok (.invokestatic 96, 3) := by decide +kernel
theorem dJ2_putCharsAt_cd4e5_12 : decode cJ2_putCharsAt_cd4e5 12 = .ok (.aload_n 0, 1) := by decide +kernel
theorem dJ2_putCharsAt_cd4e5_13 : decode cJ2_putCharsAt_cd4e5 13 = .ok (.iload_n 1, 1) := by decide +kernel
theorem dJ2_putCharsAt_cd4e5_14 : decode cJ2_putCharsAt_cd4e5 14 = .ok (.iinc 1 1, 3) := by decide +kernel
theorem dJ2_putCharsAt_cd4e5_17 : decode cJ2_putCharsAt_cd4e5 17 = .ok (.iload_n 2, 1) := by decide +kernel
theorem dJ2_putCharsAt_cd4e5_18 : decode cJ2_putCharsAt_cd4e5 18 = .ok (.invokestatic 111, 3) := by decide +kernel
theorem dJ2_putCharsAt_cd4e5_21 : decode cJ2_putCharsAt_cd4e5 21 = .ok (.aload_n 0, 1) := by decide +kernel
theorem dJ2_putCharsAt_cd4e5_22 : decode cJ2_putCharsAt_cd4e5 22 = .ok (.iload_n 1, 1) := by decide +kernel
theorem dJ2_putCharsAt_cd4e5_23 : decode cJ2_putCharsAt_cd4e5 23 = .ok (.iinc 1 1, 3) := by decide +kernel
theorem dJ2_putCharsAt_cd4e5_26 : decode cJ2_putCharsAt_cd4e5 26 = .ok (.iload_n 3, 1) := by decide +kernel
theorem dJ2_putCharsAt_cd4e5_27 : decode cJ2_putCharsAt_cd4e5 27 = .ok (.invokestatic 111, 3) := by decide +kernel
theorem dJ2_putCharsAt_cd4e5_30 : decode cJ2_putCharsAt_cd4e5 30 = .ok (.aload_n 0, 1) := by decide +kernel
theorem dJ2_putCharsAt_cd4e5_31 : decode cJ2_putCharsAt_cd4e5 31 = .ok (.iload_n 1, 1) := by decide +kernel
theorem dJ2_putCharsAt_cd4e5_32 : decode cJ2_putCharsAt_cd4e5 32 = .ok (.iinc 1 1, 3) := by decide +kernel
theorem dJ2_putCharsAt_cd4e5_35 : decode cJ2_putCharsAt_cd4e5 35 = .ok (.iload 4, 2) := by decide +kernel
theorem dJ2_putCharsAt_cd4e5_37 : decode cJ2_putCharsAt_cd4e5 37 = .ok (.invokestatic 111, 3) := by decide +kernel
theorem dJ2_putCharsAt_cd4e5_40 : decode cJ2_putCharsAt_cd4e5 40 = .ok (.aload_n 0, 1) := by decide +kernel
theorem dJ2_putCharsAt_cd4e5_41 : decode cJ2_putCharsAt_cd4e5 41 = .ok (.iload_n 1, 1) := by decide +kernel
theorem dJ2_putCharsAt_cd4e5_42 : decode cJ2_putCharsAt_cd4e5 42 = .ok (.iinc 1 1, 3) := by decide +kernel
theorem dJ2_putCharsAt_cd4e5_45 : decode cJ2_putCharsAt_cd4e5 45 = .ok (.iload 5, 2) := by decide +kernel
theorem dJ2_putCharsAt_cd4e5_47 : decode cJ2_putCharsAt_cd4e5 47 = .ok (.invokestatic 111, 3) := by decide +kernel
theorem dJ2_putCharsAt_cd4e5_50 : decode cJ2_putCharsAt_cd4e5 50 = .ok (.getstatic 44, 3) := by decide +kernel
theorem dJ2_putCharsAt_cd4e5_53 : decode cJ2_putCharsAt_cd4e5 53 = .ok (.ifCond .ne 17, 3) := by decide +kernel
theorem dJ2_putCharsAt_cd4e5_56 : decode cJ2_putCharsAt_cd4e5 56 = .ok (.iload_n 1, 1) := by decide +kernel
theorem dJ2_putCharsAt_cd4e5_57 : decode cJ2_putCharsAt_cd4e5 57 = .ok (.iload 6, 2) := by decide +kernel
theorem dJ2_putCharsAt_cd4e5_59 : decode cJ2_putCharsAt_cd4e5 59 = .ok (.if_icmp .eq 11, 3) := by decide +kernel
theorem dJ2_putCharsAt_cd4e5_62 : decode cJ2_putCharsAt_cd4e5 62 = .ok (.new 52, 3) := by decide +kernel
theorem dJ2_putCharsAt_cd4e5_65 : decode cJ2_putCharsAt_cd4e5 65 = .ok (.dup, 1) := by decide +kernel
theorem dJ2_putCharsAt_cd4e5_66 : decode cJ2_putCharsAt_cd4e5 66 = .ok (.invokespecial 66, 3) := by decide +kernel
theorem dJ2_putCharsAt_cd4e5_69 : decode cJ2_putCharsAt_cd4e5 69 = .ok (.athrow, 1) := by decide +kernel
theorem dJ2_putCharsAt_cd4e5_70 : decode cJ2_putCharsAt_cd4e5 70 = .ok (.iload 6, 2) := by decide +kernel
theorem dJ2_putCharsAt_cd4e5_72 : decode cJ2_putCharsAt_cd4e5 72 = .ok (.ireturn, 1) := by decide +kernel
theorem dJ2_charAt_3b067_0 : decode cJ2_charAt_3b067 0 = .ok (.iload_n 1, 1) := by decide +kernel
theorem dJ2_charAt_3b067_1 : decode cJ2_charAt_3b067 1 = .ok (.aload_n 0, 1) := by decide +kernel
theorem dJ2_charAt_3b067_2 : decode cJ2_charAt_3b067 2 = .ok (.invokestatic 67, 3) := by decide +kernel
theorem dJ2_charAt_3b067_5 : decode cJ2_charAt_3b067 5 = .ok (.aload_n 0, 1) := by decide +kernel
theorem dJ2_charAt_3b067_6 : decode cJ2_charAt_3b067 6 = .ok (.iload_n 1, 1) := by decide +kernel
theorem dJ2_charAt_3b067_7 : decode cJ2_charAt_3b067 7 = .ok (.invokestatic 71, 3) := by decide +kernel
theorem dJ2_charAt_3b067_10 : decode cJ2_charAt_3b067 10 = .ok (.ireturn, 1) := by decide +kernel
theorem dJ2_inflate_0e8fd_0 : decode cJ2_inflate_0e8fd 0 = .ok (.iload_n 3, 1) := by decide +kernel
theorem dJ2_inflate_0e8fd_1 : decode cJ2_inflate_0e8fd 1 = .ok (.iload 4, 2) := by decide +kernel
theorem dJ2_inflate_0e8fd_3 : decode cJ2_inflate_0e8fd 3 = .ok (.aload_n 2, 1) := by decide +kernel
theorem dJ2_inflate_0e8fd_4 : decode cJ2_inflate_0e8fd 4 = .ok (.invokestatic 173, 3) := by decide +kernel
theorem dJ2_inflate_0e8fd_7 : decode cJ2_inflate_0e8fd 7 = .ok (.iconst 0, 1) := by decide +kernel
theorem dJ2_inflate_0e8fd_8 : decode cJ2_inflate_0e8fd 8 = .ok (.istore 5, 2) := by decide +kernel
theorem dJ2_inflate_0e8fd_10 : decode cJ2_inflate_0e8fd 10 = .ok (.iload 5, 2) := by decide +kernel
theorem dJ2_inflate_0e8fd_12 : decode cJ2_inflate_0e8fd 12 = .ok (.iload 4, 2) := by decide +kernel
theorem dJ2_inflate_0e8fd_14 : decode cJ2_inflate_0e8fd 14 = .ok (.if_icmp .ge 27, 3) := by decide +kernel
theorem dJ2_inflate_0e8fd_17 : decode cJ2_inflate_0e8fd 17 = .ok (.aload_n 2, 1) := by decide +kernel
theorem dJ2_inflate_0e8fd_18 : decode cJ2_inflate_0e8fd 18 = .ok (.iload_n 3, 1) := by decide +kernel
theorem dJ2_inflate_0e8fd_19 : decode cJ2_inflate_0e8fd 19 = .ok (.iinc 3 1, 3) := by decide +kernel
theorem dJ2_inflate_0e8fd_22 : decode cJ2_inflate_0e8fd 22 = .ok (.aload_n 0, 1) := by decide +kernel
theorem dJ2_inflate_0e8fd_23 : decode cJ2_inflate_0e8fd 23 = .ok (.iload_n 1, 1) := by decide +kernel
theorem dJ2_inflate_0e8fd_24 : decode cJ2_inflate_0e8fd 24 = .ok (.iinc 1 1, 3) := by decide +kernel
theorem dJ2_inflate_0e8fd_27 : decode cJ2_inflate_0e8fd 27 = .ok (.baload, 1) := by decide +kernel
theorem dJ2_inflate_0e8fd_28 : decode cJ2_inflate_0e8fd 28 = .ok (.sipush 255, 3) := by decide +kernel
theorem dJ2_inflate_0e8fd_31 : decode cJ2_inflate_0e8fd 31 = .ok (.iand, 1) := by decide +kernel
theorem dJ2_inflate_0e8fd_32 : decode cJ2_inflate_0e8fd 32 = .ok (.invokestatic 111, 3) := by decide +kernel
theorem dJ2_inflate_0e8fd_35 : decode cJ2_inflate_0e8fd 35 = .ok (.iinc 5 1, 3) := by decide +kernel
theorem dJ2_inflate_0e8fd_38 : decode cJ2_inflate_0e8fd 38 = .ok (.goto (-28), 3) := by decide +kernel
theorem dJ2_inflate_0e8fd_41 : decode cJ2_inflate_0e8fd 41 = .ok (.return_, 1) := by decide +kernel
theorem dJ2_getChars_ba4f3_0 : decode cJ2_getChars_ba4f3 0 = .ok (.iload_n 1, 1) := by decide +kernel
theorem dJ2_getChars_ba4f3_1 : decode cJ2_getChars_ba4f3 1 = .ok (.istore 5, 2) := by decide +kernel
theorem dJ2_getChars_ba4f3_3 : decode cJ2_getChars_ba4f3 3 = .ok (.iload_n 0, 1) := by decide +kernel
theorem dJ2_getChars_ba4f3_4 : decode cJ2_getChars_ba4f3 4 = .ok (.ifCond .ge 7, 3) := by decide +kernel
theorem dJ2_getChars_ba4f3_7 : decode cJ2_getChars_ba4f3 7 = .ok (.iconst 1, 1) := by decide +kernel
theorem dJ2_getChars_ba4f3_8 : decode cJ2_getChars_ba4f3 8 = .ok (.goto 4, 3) := by decide +kernel
theorem dJ2_getChars_ba4f3_11 : decode cJ2_getChars_ba4f3 11 = .ok (.iconst 0, 1) := by decide +kernel
theorem dJ2_getChars_ba4f3_12 : decode cJ2_getChars_ba4f3 12 = .ok (.istore 6, 2) := by decide +kernel
theorem dJ2_getChars_ba4f3_14 : decode cJ2_getChars_ba4f3 14 = .ok (.iload 6, 2) := by decide +kernel
theorem dJ2_getChars_ba4f3_16 : decode cJ2_getChars_ba4f3 16 = .ok (.ifCond .ne 6, 3) := by decide +kernel
theorem dJ2_getChars_ba4f3_19 : decode cJ2_getChars_ba4f3 19 = .ok (.iload_n 0, 1) := by decide +kernel
theorem dJ2_getChars_ba4f3_20 : decode cJ2_getChars_ba4f3 20 = .ok (.ineg, 1) := by decide +kernel
theorem dJ2_getChars_ba4f3_21 : decode cJ2_getChars_ba4f3 21 = .ok (.istore_n 0, 1) := by decide +kernel
theorem dJ2_getChars_ba4f3_22 : decode cJ2_getChars_ba4f3 22 = .ok (.iload_n 0, 1) := by decide +kernel
theorem dJ2_getChars_ba4f3_23 : decode cJ2_getChars_ba4f3 23 = .ok (.bipush (-100), 2) := by decide +kernel
theorem dJ2_getChars_ba4f3_25 : decode cJ2_getChars_ba4f3 25 = .ok (.if_icmp .gt 51, 3) := by decide +kernel
theorem dJ2_getChars_ba4f3_28 : decode cJ2_getChars_ba4f3 28 = .ok (.iload_n 0, 1) := by decide +kernel
theorem dJ2_getChars_ba4f3_29 : decode cJ2_getChars_ba4f3 29 = .ok (.bipush 100, 2) := by decide +kernel
theorem dJ2_getChars_ba4f3_31 : decode cJ2_getChars_ba4f3 31 = .ok (.idiv, 1) := by decide +kernel
theorem dJ2_getChars_ba4f3_32 : decode cJ2_getChars_ba4f3 32 = .ok (.istore_n 3, 1) := by decide +kernel
theorem dJ2_getChars_ba4f3_33 : decode cJ2_getChars_ba4f3 33 = .ok (.iload_n 3, 1) := by decide +kernel
theorem dJ2_getChars_ba4f3_34 : decode cJ2_getChars_ba4f3 34 = .ok (.bipush 100, 2) := by decide +kernel
theorem dJ2_getChars_ba4f3_36 : decode cJ2_getChars_ba4f3 36 = .ok (.imul, 1) := by decide +kernel
theorem dJ2_getChars_ba4f3_37 : decode cJ2_getChars_ba4f3 37 = .ok (.iload_n 0, 1) := by decide +kernel
theorem dJ2_getChars_ba4f3_38 : decode cJ2_getChars_ba4f3 38 = .ok (.isub, 1) := by decide +kernel
theorem dJ2_getChars_ba4f3_39 : decode cJ2_getChars_ba4f3 39 = .ok (.istore 4, 2) := by decide +kernel
theorem dJ2_getChars_ba4f3_41 : decode cJ2_getChars_ba4f3 41 = .ok (.iload_n 3, 1) := by decide +kernel
theorem dJ2_getChars_ba4f3_42 : decode cJ2_getChars_ba4f3 42 = .ok (.istore_n 0, 1) := by decide +kernel
theorem dJ2_getChars_ba4f3_43 : decode cJ2_getChars_ba4f3 43 = .ok (.aload_n 2, 1) := by decide +kernel
theorem dJ2_getChars_ba4f3_44 : decode cJ2_getChars_ba4f3 44 = .ok (.iinc 5 (-1), 3) := by decide +kernel
theorem dJ2_getChars_ba4f3_47 : decode cJ2_getChars_ba4f3 47 = .ok (.iload 5, 2) := by decide +kernel
theorem dJ2_getChars_ba4f3_49 : decode cJ2_getChars_ba4f3 49 = .ok (.getstatic 403, 3) := by decide +kernel
theorem dJ2_getChars_ba4f3_52 : decode cJ2_getChars_ba4f3 52 = .ok (.iload 4, 2) := by decide +kernel
theorem dJ2_getChars_ba4f3_54 : decode cJ2_getChars_ba4f3 54 = .ok (.baload, 1) := by decide +kernel
theorem dJ2_getChars_ba4f3_55 : decode cJ2_getChars_ba4f3 55 = .ok (.invokestatic 111, 3) := by decide +kernel
theorem dJ2_getChars_ba4f3_58 : decode cJ2_getChars_ba4f3 58 = .ok (.aload_n 2, 1) := by decide +kernel
theorem dJ2_getChars_ba4f3_59 : decode cJ2_getChars_ba4f3 59 = .ok (.iinc 5 (-1), 3) := by decide +kernel
theorem dJ2_getChars_ba4f3_62 : decode cJ2_getChars_ba4f3 62 = .ok (.iload 5, 2) := by decide +kernel
theorem dJ2_getChars_ba4f3_64 : decode cJ2_getChars_ba4f3 64 = .ok (.getstatic 407, 3) := by decide +kernel
theorem dJ2_getChars_ba4f3_67 : decode cJ2_getChars_ba4f3 67 = .ok (.iload 4, 2) := by decide +kernel
theorem dJ2_getChars_ba4f3_69 : decode cJ2_getChars_ba4f3 69 = .ok (.baload, 1) := by decide +kernel
theorem dJ2_getChars_ba4f3_70 : decode cJ2_getChars_ba4f3 70 = .ok (.invokestatic 111, 3) := by decide +kernel
theorem dJ2_getChars_ba4f3_73 : decode cJ2_getChars_ba4f3 73 = .ok (.goto (-51), 3) := by decide +kernel
theorem dJ2_getChars_ba4f3_76 : decode cJ2_getChars_ba4f3 76 = .ok (.aload_n 2, 1) := by decide +kernel
theorem dJ2_getChars_ba4f3_77 : decode cJ2_getChars_ba4f3 77 = .ok (.iinc 5 (-1), 3) := by decide +kernel
theorem dJ2_getChars_ba4f3_80 : decode cJ2_getChars_ba4f3 80 = .ok (.iload 5, 2) := by decide +kernel
theorem dJ2_getChars_ba4f3_82 : decode cJ2_getChars_ba4f3 82 = .ok (.getstatic 403, 3) := by decide +kernel
theorem dJ2_getChars_ba4f3_85 : decode cJ2_getChars_ba4f3 85 = .ok (.iload_n 0, 1) := by decide +kernel
theorem dJ2_getChars_ba4f3_86 : decode cJ2_getChars_ba4f3 86 = .ok (.ineg, 1) := by decide +kernel
theorem dJ2_getChars_ba4f3_87 : decode cJ2_getChars_ba4f3 87 = .ok (.baload, 1) := by decide +kernel
theorem dJ2_getChars_ba4f3_88 : decode cJ2_getChars_ba4f3 88 = .ok (.invokestatic 111, 3) := by decide +kernel
theorem dJ2_getChars_ba4f3_91 : decode cJ2_getChars_ba4f3 91 = .ok (.iload_n 0, 1) := by decide +kernel
theorem dJ2_getChars_ba4f3_92 : decode cJ2_getChars_ba4f3 92 = .ok (.bipush (-9), 2) := by decide +kernel
theorem dJ2_getChars_ba4f3_94 : decode cJ2_getChars_ba4f3 94 = .ok (.if_icmp .ge 18, 3) := by decide +kernel
theorem dJ2_getChars_ba4f3_97 : decode cJ2_getChars_ba4f3 97 = .ok (.aload_n 2, 1) := by decide +kernel
theorem dJ2_getChars_ba4f3_98 : decode cJ2_getChars_ba4f3 98 = .ok (.iinc 5 (-1), 3) := by decide +kernel
theorem dJ2_getChars_ba4f3_101 : decode cJ2_getChars_ba4f3 101 = .ok (.iload 5, 2) := by decide +kernel
theorem dJ2_getChars_ba4f3_103 : decode cJ2_getChars_ba4f3 103 = .ok (.getstatic 407, 3) := by decide +kernel
theorem dJ2_getChars_ba4f3_106 : decode cJ2_getChars_ba4f3 106 = .ok (.iload_n 0, 1) := by decide +kernel
theorem dJ2_getChars_ba4f3_107 : decode cJ2_getChars_ba4f3 107 = .ok (.ineg, 1) := by decide +kernel
theorem dJ2_getChars_ba4f3_108 : decode cJ2_getChars_ba4f3 108 = .ok (.baload, 1) := by decide +kernel
theorem dJ2_getChars_ba4f3_109 : decode cJ2_getChars_ba4f3 109 = .ok (.invokestatic 111, 3) := by decide +kernel
theorem dJ2_getChars_ba4f3_112 : decode cJ2_getChars_ba4f3 112 = .ok (.iload 6, 2) := by decide +kernel
theorem dJ2_getChars_ba4f3_114 : decode cJ2_getChars_ba4f3 114 = .ok (.ifCond .eq 14, 3) := by decide +kernel
theorem dJ2_getChars_ba4f3_117 : decode cJ2_getChars_ba4f3 117 = .ok (.aload_n 2, 1) := by decide +kernel
theorem dJ2_getChars_ba4f3_118 : decode cJ2_getChars_ba4f3 118 = .ok (.iinc 5 (-1), 3) := by decide +kernel
theorem dJ2_getChars_ba4f3_121 : decode cJ2_getChars_ba4f3 121 = .ok (.iload 5, 2) := by decide +kernel
theorem dJ2_getChars_ba4f3_123 : decode cJ2_getChars_ba4f3 123 = .ok (.bipush 45, 2) := by decide +kernel
theorem dJ2_getChars_ba4f3_125 : decode cJ2_getChars_ba4f3 125 = .ok (.invokestatic 111, 3) := by decide +kernel
theorem dJ2_getChars_ba4f3_128 : decode cJ2_getChars_ba4f3 128 = .ok (.iload 5, 2) := by decide +kernel
theorem dJ2_getChars_ba4f3_130 : decode cJ2_getChars_ba4f3 130 = .ok (.ireturn, 1) := by decide +kernel
theorem dJ2_checkIndex_2214a_0 : decode cJ2_checkIndex_2214a 0 = .ok (.iload_n 0, 1) := by decide +kernel
theorem dJ2_checkIndex_2214a_1 : decode cJ2_checkIndex_2214a 1 = .ok (.aload_n 1, 1) := by decide +kernel
theorem dJ2_checkIndex_2214a_2 : decode cJ2_checkIndex_2214a 2 = .ok (.invokestatic 48, 3) := by decide +kernel
theorem dJ2_checkIndex_2214a_5 : decode cJ2_checkIndex_2214a 5 = .ok (.invokestatic 414, 3) := by decide +kernel
theorem dJ2_checkIndex_2214a_8 : decode cJ2_checkIndex_2214a 8 = .ok (.return_, 1) := by decide +kernel
theorem dJ2_checkBoundsBeginEnd_d044e_0 : decode cJ2_checkBoundsBeginEnd_d044e 0 = .ok (.iload_n 0, 1) := by decide +kernel
theorem dJ2_checkBoundsBeginEnd_d044e_1 : decode cJ2_checkBoundsBeginEnd_d044e 1 = .ok (.iload_n 1, 1) := by decide +kernel
theorem dJ2_checkBoundsBeginEnd_d044e_2 : decode cJ2_checkBoundsBeginEnd_d044e 2 = .ok (.aload_n 2, 1) := by decide +kernel
theorem dJ2_checkBoundsBeginEnd_d044e_3 : decode cJ2_checkBoundsBeginEnd_d044e 3 = .ok (.invokestatic 48, 3) := by decide +kernel
theorem dJ2_checkBoundsBeginEnd_d044e_6 : decode cJ2_checkBoundsBeginEnd_d044e 6 = .ok (.invokestatic 241, 3) := by decide +kernel
theorem dJ2_checkBoundsBeginEnd_d044e_9 : decode cJ2_checkBoundsBeginEnd_d044e 9 = .ok (.return_, 1) := by decide +kernel
theorem dJ2_checkBoundsOffCount_d044e_0 : decode cJ2_checkBoundsOffCount_d044e 0 = .ok (.iload_n 0, 1) := by decide +kernel
theorem dJ2_checkBoundsOffCount_d044e_1 : decode cJ2_checkBoundsOffCount_d044e 1 = .ok (.iload_n 1, 1) := by decide +kernel
theorem dJ2_checkBoundsOffCount_d044e_2 : decode cJ2_checkBoundsOffCount_d044e 2 = .ok (.aload_n 2, 1) := by decide +kernel
theorem dJ2_checkBoundsOffCount_d044e_3 : decode cJ2_checkBoundsOffCount_d044e 3 = .ok (.invokestatic 48, 3) := by decide +kernel
theorem dJ2_checkBoundsOffCount_d044e_6 : decode cJ2_checkBoundsOffCount_d044e 6 = .ok (.invokestatic 419, 3) := by decide +kernel
theorem dJ2_checkBoundsOffCount_d044e_9 : decode cJ2_checkBoundsOffCount_d044e 9 = .ok (.pop, 1) := by decide +kernel
theorem dJ2_checkBoundsOffCount_d044e_10 : decode cJ2_checkBoundsOffCount_d044e 10 = .ok (.return_, 1) := by decide +kernel
theorem dJ7_copyOf_9075b_0 : decode cJ7_copyOf_9075b 0 = .ok (.iload_n 1, 1) := by decide +kernel
theorem dJ7_copyOf_9075b_1 : decode cJ7_copyOf_9075b 1 = .ok (.aload_n 0, 1) := by decide +kernel
theorem dJ7_copyOf_9075b_2 : decode cJ7_copyOf_9075b 2 = .ok (.arraylength, 1) := by decide +kernel
theorem dJ7_copyOf_9075b_3 : decode cJ7_copyOf_9075b 3 = .ok (.if_icmp .ne 11, 3) := by decide +kernel
theorem dJ7_copyOf_9075b_6 : decode cJ7_copyOf_9075b 6 = .ok (.aload_n 0, 1) := by decide +kernel
theorem dJ7_copyOf_9075b_7 : decode cJ7_copyOf_9075b 7 = .ok (.invokevirtual 310, 3) := by decide +kernel
theorem dJ7_copyOf_9075b_10 : decode cJ7_copyOf_9075b 10 = .ok (.checkcast 311, 3) := by decide +kernel
theorem dJ7_copyOf_9075b_13 : decode cJ7_copyOf_9075b 13 = .ok (.areturn, 1) := by decide +kernel
theorem dJ7_copyOf_9075b_14 : decode cJ7_copyOf_9075b 14 = .ok (.iload_n 1, 1) := by decide +kernel
theorem dJ7_copyOf_9075b_15 : decode cJ7_copyOf_9075b 15 = .ok (.newarray .byte, 2) := by decide +kernel
theorem dJ7_copyOf_9075b_17 : decode cJ7_copyOf_9075b 17 = .ok (.astore_n 2, 1) := by decide +kernel
theorem dJ7_copyOf_9075b_18 : decode cJ7_copyOf_9075b 18 = .ok (.aload_n 0, 1) := by decide +kernel
theorem dJ7_copyOf_9075b_19 : decode cJ7_copyOf_9075b 19 = .ok (.iconst 0, 1) := by decide +kernel
theorem dJ7_copyOf_9075b_20 : decode cJ7_copyOf_9075b 20 = .ok (.aload_n 2, 1) := by decide +kernel
theorem dJ7_copyOf_9075b_21 : decode cJ7_copyOf_9075b 21 = .ok (.iconst 0, 1) := by decide +kernel
theorem dJ7_copyOf_9075b_22 : decode cJ7_copyOf_9075b 22 = .ok (.aload_n 0, 1) := by decide +kernel
theorem dJ7_copyOf_9075b_23 : decode cJ7_copyOf_9075b 23 = .ok (.arraylength, 1) := by decide +kernel
theorem dJ7_copyOf_9075b_24 : decode cJ7_copyOf_9075b 24 = .ok (.iload_n 1, 1) := by decide +kernel
theorem dJ7_copyOf_9075b_25 : decode cJ7_copyOf_9075b 25 = .ok (.invokestatic 304, 3) := by decide +kernel
theorem dJ7_copyOf_9075b_28 : decode cJ7_copyOf_9075b 28 = .ok (.invokestatic 150, 3) := by decide +kernel
theorem dJ7_copyOf_9075b_31 : decode cJ7_copyOf_9075b 31 = .ok (.aload_n 2, 1) := by decide +kernel
theorem dJ7_copyOf_9075b_32 : decode cJ7_copyOf_9075b 32 = .ok (.areturn, 1) := by decide +kernel
theorem dJ7_checkLength_df160_0 : decode cJ7_checkLength_df160 0 = .ok (.iload_n 1, 1) := by decide +kernel
theorem dJ7_checkLength_df160_1 : decode cJ7_checkLength_df160 1 = .ok (.iload_n 0, 1) := by decide +kernel
theorem dJ7_checkLength_df160_2 : decode cJ7_checkLength_df160 2 = .ok (.if_icmp .ge 35, 3) := by decide +kernel
theorem dJ7_checkLength_df160_5 : decode cJ7_checkLength_df160 5 = .ok (.new 43, 3) := by decide +kernel
theorem dJ7_checkLength_df160_8 : decode cJ7_checkLength_df160 8 = .ok (.dup, 1) := by decide +kernel
theorem dJ7_checkLength_df160_9 : decode cJ7_checkLength_df160 9 = .ok (.new 45, 3) := by decide +kernel
theorem dJ7_checkLength_df160_12 : decode cJ7_checkLength_df160 12 = .ok (.dup, 1) := by decide +kernel
theorem dJ7_checkLength_df160_13 : decode cJ7_checkLength_df160 13 = .ok (.invokespecial 47, 3) := by decide +kernel
theorem dJ7_checkLength_df160_16 : decode cJ7_checkLength_df160 16 = .ok (.iload_n 0, 1) := by decide +kernel
theorem dJ7_checkLength_df160_17 : decode cJ7_checkLength_df160 17 = .ok (.invokevirtual 54, 3) := by decide +kernel
theorem dJ7_checkLength_df160_20 : decode cJ7_checkLength_df160 20 = .ok (.ldc_w 337, 3) := by decide +kernel
theorem dJ7_checkLength_df160_23 : decode cJ7_checkLength_df160 23 = .ok (.invokevirtual 50, 3) := by decide +kernel
theorem dJ7_checkLength_df160_26 : decode cJ7_checkLength_df160 26 = .ok (.iload_n 1, 1) := by decide +kernel
theorem dJ7_checkLength_df160_27 : decode cJ7_checkLength_df160 27 = .ok (.invokevirtual 54, 3) := by decide +kernel
theorem dJ7_checkLength_df160_30 : decode cJ7_checkLength_df160 30 = .ok (.invokevirtual 61, 3) := by decide +kernel
theorem dJ7_checkLength_df160_33 : decode cJ7_checkLength_df160 33 = .ok (.invokespecial 65, 3) := by decide +kernel
theorem dJ7_checkLength_df160_36 : decode cJ7_checkLength_df160 36 = .ok (.athrow, 1) := by decide +kernel
theorem dJ7_checkLength_df160_37 : decode cJ7_checkLength_df160 37 = .ok (.return_, 1) := by decide +kernel
theorem dJ7_copyOfRange_39247_0 : decode cJ7_copyOfRange_39247 0 = .ok (.iload_n 1, 1) := by decide +kernel
theorem dJ7_copyOfRange_39247_1 : decode cJ7_copyOfRange_39247 1 = .ok (.ifCond .ne 9, 3) := by decide +kernel
theorem dJ7_copyOfRange_39247_4 : decode cJ7_copyOfRange_39247 4 = .ok (.iload_n 2, 1) := by decide +kernel
theorem dJ7_copyOfRange_39247_5 : decode cJ7_copyOfRange_39247 5 = .ok (.aload_n 0, 1) := by decide +kernel
theorem dJ7_copyOfRange_39247_6 : decode cJ7_copyOfRange_39247 6 = .ok (.arraylength, 1) := by decide +kernel
theorem dJ7_copyOfRange_39247_7 : decode cJ7_copyOfRange_39247 7 = .ok (.if_icmp .eq 10, 3) := by decide +kernel
theorem dJ7_copyOfRange_39247_10 : decode cJ7_copyOfRange_39247 10 = .ok (.aload_n 0, 1) := by decide +kernel
theorem dJ7_copyOfRange_39247_11 : decode cJ7_copyOfRange_39247 11 = .ok (.iload_n 1, 1) := by decide +kernel
theorem dJ7_copyOfRange_39247_12 : decode cJ7_copyOfRange_39247 12 = .ok (.iload_n 2, 1) := by decide +kernel
theorem dJ7_copyOfRange_39247_13 : decode cJ7_copyOfRange_39247 13 = .ok (.invokestatic 339, 3) := by decide +kernel
theorem dJ7_copyOfRange_39247_16 : decode cJ7_copyOfRange_39247 16 = .ok (.areturn, 1) := by decide +kernel
theorem dJ7_copyOfRange_39247_17 : decode cJ7_copyOfRange_39247 17 = .ok (.aload_n 0, 1) := by decide +kernel
theorem dJ7_copyOfRange_39247_18 : decode cJ7_copyOfRange_39247 18 = .ok (.invokevirtual 310, 3) := by decide +kernel
theorem dJ7_copyOfRange_39247_21 : decode cJ7_copyOfRange_39247 21 = .ok (.checkcast 311, 3) := by decide +kernel
theorem dJ7_copyOfRange_39247_24 : decode cJ7_copyOfRange_39247 24 = .ok (.areturn, 1) := by decide +kernel
theorem dJ7_copyOfRangeByte_39247_0 : decode cJ7_copyOfRangeByte_39247 0 = .ok (.iload_n 1, 1) := by decide +kernel
theorem dJ7_copyOfRangeByte_39247_1 : decode cJ7_copyOfRangeByte_39247 1 = .ok (.iload_n 2, 1) := by decide +kernel
theorem dJ7_copyOfRangeByte_39247_2 : decode cJ7_copyOfRangeByte_39247 2 = .ok (.invokestatic 343, 3) := by decide +kernel
theorem dJ7_copyOfRangeByte_39247_5 : decode cJ7_copyOfRangeByte_39247 5 = .ok (.iload_n 2, 1) := by decide +kernel
theorem dJ7_copyOfRangeByte_39247_6 : decode cJ7_copyOfRangeByte_39247 6 = .ok (.iload_n 1, 1) := by decide +kernel
theorem dJ7_copyOfRangeByte_39247_7 : decode cJ7_copyOfRangeByte_39247 7 = .ok (.isub, 1) := by decide +kernel
theorem dJ7_copyOfRangeByte_39247_8 : decode cJ7_copyOfRangeByte_39247 8 = .ok (.istore_n 3, 1) := by decide +kernel
theorem dJ7_copyOfRangeByte_39247_9 : decode cJ7_copyOfRangeByte_39247 9 = .ok (.iload_n 3, 1) := by decide +kernel
theorem dJ7_copyOfRangeByte_39247_10 : decode cJ7_copyOfRangeByte_39247 10 = .ok (.newarray .byte, 2) := by decide +kernel
theorem dJ7_copyOfRangeByte_39247_12 : decode cJ7_copyOfRangeByte_39247 12 = .ok (.astore 4, 2) := by decide +kernel
theorem dJ7_copyOfRangeByte_39247_14 : decode cJ7_copyOfRangeByte_39247 14 = .ok (.aload_n 0, 1) := by decide +kernel
theorem dJ7_copyOfRangeByte_39247_15 : decode cJ7_copyOfRangeByte_39247 15 = .ok (.iload_n 1, 1) := by decide +kernel
theorem dJ7_copyOfRangeByte_39247_16 : decode cJ7_copyOfRangeByte_39247 16 = .ok (.aload 4, 2) := by decide +kernel
theorem dJ7_copyOfRangeByte_39247_18 : decode cJ7_copyOfRangeByte_39247 18 = .ok (.iconst 0, 1) := by decide +kernel
theorem dJ7_copyOfRangeByte_39247_19 : decode cJ7_copyOfRangeByte_39247 19 = .ok (.aload_n 0, 1) := by decide +kernel
theorem dJ7_copyOfRangeByte_39247_20 : decode cJ7_copyOfRangeByte_39247 20 = .ok (.arraylength, 1) := by decide +kernel
theorem dJ7_copyOfRangeByte_39247_21 : decode cJ7_copyOfRangeByte_39247 21 = .ok (.iload_n 1, 1) := by decide +kernel
theorem dJ7_copyOfRangeByte_39247_22 : decode cJ7_copyOfRangeByte_39247 22 = .ok (.isub, 1) := by decide +kernel
theorem dJ7_copyOfRangeByte_39247_23 : decode cJ7_copyOfRangeByte_39247 23 = .ok (.iload_n 3, 1) := by decide +kernel
theorem dJ7_copyOfRangeByte_39247_24 : decode cJ7_copyOfRangeByte_39247 24 = .ok (.invokestatic 304, 3) := by decide +kernel
theorem dJ7_copyOfRangeByte_39247_27 : decode cJ7_copyOfRangeByte_39247 27 = .ok (.invokestatic 150, 3) := by decide +kernel
theorem dJ7_copyOfRangeByte_39247_30 : decode cJ7_copyOfRangeByte_39247 30 = .ok (.aload 4, 2) := by decide +kernel
theorem dJ7_copyOfRangeByte_39247_32 : decode cJ7_copyOfRangeByte_39247 32 = .ok (.areturn, 1) := by decide +kernel
theorem dJ8_newLength_cabcc_0 : decode cJ8_newLength_cabcc 0 = .ok (.iload_n 0, 1) := by decide +kernel
theorem dJ8_newLength_cabcc_1 : decode cJ8_newLength_cabcc 1 = .ok (.iload_n 1, 1) := by decide +kernel
theorem dJ8_newLength_cabcc_2 : decode cJ8_newLength_cabcc 2 = .ok (.iload_n 2, 1) := by decide +kernel
theorem dJ8_newLength_cabcc_3 : decode cJ8_newLength_cabcc 3 = .ok (.invokestatic 194, 3) := by decide +kernel
theorem dJ8_newLength_cabcc_6 : decode cJ8_newLength_cabcc 6 = .ok (.iadd, 1) := by decide +kernel
theorem dJ8_newLength_cabcc_7 : decode cJ8_newLength_cabcc 7 = .ok (.istore_n 3, 1) := by decide +kernel
theorem dJ8_newLength_cabcc_8 : decode cJ8_newLength_cabcc 8 = .ok (.iconst 0, 1) := by decide +kernel
theorem dJ8_newLength_cabcc_9 : decode cJ8_newLength_cabcc 9 = .ok (.iload_n 3, 1) := by decide +kernel
theorem dJ8_newLength_cabcc_10 : decode cJ8_newLength_cabcc 10 = .ok (.if_icmp .ge 11, 3) := by decide +kernel
theorem dJ8_newLength_cabcc_13 : decode cJ8_newLength_cabcc 13 = .ok (.iload_n 3, 1) := by decide +kernel
theorem dJ8_newLength_cabcc_14 : decode cJ8_newLength_cabcc 14 = .ok (.ldc 200, 2) := by decide +kernel
theorem dJ8_newLength_cabcc_16 : decode cJ8_newLength_cabcc 16 = .ok (.if_icmp .gt 5, 3) := by decide +kernel
theorem dJ8_newLength_cabcc_19 : decode cJ8_newLength_cabcc 19 = .ok (.iload_n 3, 1) := by decide +kernel
theorem dJ8_newLength_cabcc_20 : decode cJ8_newLength_cabcc 20 = .ok (.ireturn, 1) := by decide +kernel
theorem dJ8_newLength_cabcc_21 : decode cJ8_newLength_cabcc 21 = .ok (.iload_n 0, 1) := by decide +kernel
theorem dJ8_newLength_cabcc_22 : decode cJ8_newLength_cabcc 22 = .ok (.iload_n 1, 1) := by decide +kernel
theorem dJ8_newLength_cabcc_23 : decode cJ8_newLength_cabcc 23 = .ok (.invokestatic 201, 3) := by decide +kernel
theorem dJ8_newLength_cabcc_26 : decode cJ8_newLength_cabcc 26 = .ok (.ireturn, 1) := by decide +kernel
theorem dJ8_hugeLength_7cf53_0 : decode cJ8_hugeLength_7cf53 0 = .ok (.iload_n 0, 1) := by decide +kernel
theorem dJ8_hugeLength_7cf53_1 : decode cJ8_hugeLength_7cf53 1 = .ok (.iload_n 1, 1) := by decide +kernel
theorem dJ8_hugeLength_7cf53_2 : decode cJ8_hugeLength_7cf53 2 = .ok (.iadd, 1) := by decide +kernel
theorem dJ8_hugeLength_7cf53_3 : decode cJ8_hugeLength_7cf53 3 = .ok (.istore_n 2, 1) := by decide +kernel
theorem dJ8_hugeLength_7cf53_4 : decode cJ8_hugeLength_7cf53 4 = .ok (.iload_n 2, 1) := by decide +kernel
theorem dJ8_hugeLength_7cf53_5 : decode cJ8_hugeLength_7cf53 5 = .ok (.ifCond .ge 44, 3) := by decide +kernel
theorem dJ8_hugeLength_7cf53_8 : decode cJ8_hugeLength_7cf53 8 = .ok (.new 204, 3) := by decide +kernel
theorem dJ8_hugeLength_7cf53_11 : decode cJ8_hugeLength_7cf53 11 = .ok (.dup, 1) := by decide +kernel
theorem dJ8_hugeLength_7cf53_12 : decode cJ8_hugeLength_7cf53 12 = .ok (.new 89, 3) := by decide +kernel
theorem dJ8_hugeLength_7cf53_15 : decode cJ8_hugeLength_7cf53 15 = .ok (.dup, 1) := by decide +kernel
theorem dJ8_hugeLength_7cf53_16 : decode cJ8_hugeLength_7cf53 16 = .ok (.invokespecial 91, 3) := by decide +kernel
theorem dJ8_hugeLength_7cf53_19 : decode cJ8_hugeLength_7cf53 19 = .ok (.ldc 206, 2) := by decide +kernel
theorem dJ8_hugeLength_7cf53_21 : decode cJ8_hugeLength_7cf53 21 = .ok (.invokevirtual 94, 3) := by decide +kernel
theorem dJ8_hugeLength_7cf53_24 : decode cJ8_hugeLength_7cf53 24 = .ok (.iload_n 0, 1) := by decide +kernel
theorem dJ8_hugeLength_7cf53_25 : decode cJ8_hugeLength_7cf53 25 = .ok (.invokevirtual 98, 3) := by decide +kernel
theorem dJ8_hugeLength_7cf53_28 : decode cJ8_hugeLength_7cf53 28 = .ok (.ldc 208, 2) := by decide +kernel
theorem dJ8_hugeLength_7cf53_30 : decode cJ8_hugeLength_7cf53 30 = .ok (.invokevirtual 94, 3) := by decide +kernel
theorem dJ8_hugeLength_7cf53_33 : decode cJ8_hugeLength_7cf53 33 = .ok (.iload_n 1, 1) := by decide +kernel
theorem dJ8_hugeLength_7cf53_34 : decode cJ8_hugeLength_7cf53 34 = .ok (.invokevirtual 98, 3) := by decide +kernel
theorem dJ8_hugeLength_7cf53_37 : decode cJ8_hugeLength_7cf53 37 = .ok (.ldc 210, 2) := by decide +kernel
theorem dJ8_hugeLength_7cf53_39 : decode cJ8_hugeLength_7cf53 39 = .ok (.invokevirtual 94, 3) := by decide +kernel
theorem dJ8_hugeLength_7cf53_42 : decode cJ8_hugeLength_7cf53 42 = .ok (.invokevirtual 101, 3) := by decide +kernel
theorem dJ8_hugeLength_7cf53_45 : decode cJ8_hugeLength_7cf53 45 = .ok (.invokespecial 212, 3) := by decide +kernel
theorem dJ8_hugeLength_7cf53_48 : decode cJ8_hugeLength_7cf53 48 = .ok (.athrow, 1) := by decide +kernel
theorem dJ8_hugeLength_7cf53_49 : decode cJ8_hugeLength_7cf53 49 = .ok (.iload_n 2, 1) := by decide +kernel
theorem dJ8_hugeLength_7cf53_50 : decode cJ8_hugeLength_7cf53 50 = .ok (.ldc 200, 2) := by decide +kernel
theorem dJ8_hugeLength_7cf53_52 : decode cJ8_hugeLength_7cf53 52 = .ok (.if_icmp .gt 6, 3) := by decide +kernel
theorem dJ8_hugeLength_7cf53_55 : decode cJ8_hugeLength_7cf53 55 = .ok (.ldc 200, 2) := by decide +kernel
theorem dJ8_hugeLength_7cf53_57 : decode cJ8_hugeLength_7cf53 57 = .ok (.ireturn, 1) := by decide +kernel
theorem dJ8_hugeLength_7cf53_58 : decode cJ8_hugeLength_7cf53 58 = .ok (.iload_n 2, 1) := by decide +kernel
theorem dJ8_hugeLength_7cf53_59 : decode cJ8_hugeLength_7cf53 59 = .ok (.ireturn, 1) := by decide +kernel
theorem dJ3_checkIndex_8e157_0 : decode cJ3_checkIndex_8e157 0 = .ok (.iload_n 0, 1) := by decide +kernel
theorem dJ3_checkIndex_8e157_1 : decode cJ3_checkIndex_8e157 1 = .ok (.ifCond .lt 8, 3) := by decide +kernel
theorem dJ3_checkIndex_8e157_4 : decode cJ3_checkIndex_8e157 4 = .ok (.iload_n 0, 1) := by decide +kernel
theorem dJ3_checkIndex_8e157_5 : decode cJ3_checkIndex_8e157 5 = .ok (.iload_n 1, 1) := by decide +kernel
theorem dJ3_checkIndex_8e157_6 : decode cJ3_checkIndex_8e157 6 = .ok (.if_icmp .lt 10, 3) := by decide +kernel
theorem dJ3_checkIndex_8e157_9 : decode cJ3_checkIndex_8e157 9 = .ok (.aload_n 2, 1) := by decide +kernel
theorem dJ3_checkIndex_8e157_10 : decode cJ3_checkIndex_8e157 10 = .ok (.iload_n 0, 1) := by decide +kernel
theorem dJ3_checkIndex_8e157_11 : decode cJ3_checkIndex_8e157 11 = .ok (.iload_n 1, 1) := by decide +kernel
theorem dJ3_checkIndex_8e157_12 : decode cJ3_checkIndex_8e157 12 = .ok (.invokestatic 95, 3) := by decide +kernel
theorem dJ3_checkIndex_8e157_15 : decode cJ3_checkIndex_8e157 15 = .ok (.athrow, 1) := by decide +kernel
theorem dJ3_checkIndex_8e157_16 : decode cJ3_checkIndex_8e157 16 = .ok (.iload_n 0, 1) := by decide +kernel
theorem dJ3_checkIndex_8e157_17 : decode cJ3_checkIndex_8e157 17 = .ok (.ireturn, 1) := by decide +kernel
theorem dJ3_checkFromToIndex_8c36e_0 : decode cJ3_checkFromToIndex_8c36e 0 = .ok (.iload_n 0, 1) := by decide +kernel
theorem dJ3_checkFromToIndex_8c36e_1 : decode cJ3_checkFromToIndex_8c36e 1 = .ok (.ifCond .lt 13, 3) := by decide +kernel
theorem dJ3_checkFromToIndex_8c36e_4 : decode cJ3_checkFromToIndex_8c36e 4 = .ok (.iload_n 0, 1) := by decide +kernel
theorem dJ3_checkFromToIndex_8c36e_5 : decode cJ3_checkFromToIndex_8c36e 5 = .ok (.iload_n 1, 1) := by decide +kernel
theorem dJ3_checkFromToIndex_8c36e_6 : decode cJ3_checkFromToIndex_8c36e 6 = .ok (.if_icmp .gt 8, 3) := by decide +kernel
theorem dJ3_checkFromToIndex_8c36e_9 : decode cJ3_checkFromToIndex_8c36e 9 = .ok (.iload_n 1, 1) := by decide +kernel
theorem dJ3_checkFromToIndex_8c36e_10 : decode cJ3_checkFromToIndex_8c36e 10 = .ok (.iload_n 2, 1) := by decide +kernel
theorem dJ3_checkFromToIndex_8c36e_11 : decode cJ3_checkFromToIndex_8c36e 11 = .ok (.if_icmp .le 11, 3) := by decide +kernel
theorem dJ3_checkFromToIndex_8c36e_14 : decode cJ3_checkFromToIndex_8c36e 14 = .ok (.aload_n 3, 1) := by decide +kernel
theorem dJ3_checkFromToIndex_8c36e_15 : decode cJ3_checkFromToIndex_8c36e 15 = .ok (.iload_n 0, 1) := by decide +kernel
theorem dJ3_checkFromToIndex_8c36e_16 : decode cJ3_checkFromToIndex_8c36e 16 = .ok (.iload_n 1, 1) := by decide +kernel
theorem dJ3_checkFromToIndex_8c36e_17 : decode cJ3_checkFromToIndex_8c36e 17 = .ok (.iload_n 2, 1) := by decide +kernel
theorem dJ3_checkFromToIndex_8c36e_18 : decode cJ3_checkFromToIndex_8c36e 18 = .ok (.invokestatic 99, 3) := by decide +kernel
theorem dJ3_checkFromToIndex_8c36e_21 : decode cJ3_checkFromToIndex_8c36e 21 = .ok (.athrow, 1) := by decide +kernel
theorem dJ3_checkFromToIndex_8c36e_22 : decode cJ3_checkFromToIndex_8c36e 22 = .ok (.iload_n 0, 1) := by decide +kernel
theorem dJ3_checkFromToIndex_8c36e_23 : decode cJ3_checkFromToIndex_8c36e 23 = .ok (.ireturn, 1) := by decide +kernel
theorem dJ3_checkFromIndexSize_8c36e_0 : decode cJ3_checkFromIndexSize_8c36e 0 = .ok (.iload_n 2, 1) := by decide +kernel
theorem dJ3_checkFromIndexSize_8c36e_1 : decode cJ3_checkFromIndexSize_8c36e 1 = .ok (.iload_n 0, 1) := by decide +kernel
theorem dJ3_checkFromIndexSize_8c36e_2 : decode cJ3_checkFromIndexSize_8c36e 2 = .ok (.ior, 1) := by decide +kernel
theorem dJ3_checkFromIndexSize_8c36e_3 : decode cJ3_checkFromIndexSize_8c36e 3 = .ok (.iload_n 1, 1) := by decide +kernel
theorem dJ3_checkFromIndexSize_8c36e_4 : decode cJ3_checkFromIndexSize_8c36e 4 = .ok (.ior, 1) := by decide +kernel
theorem dJ3_checkFromIndexSize_8c36e_5 : decode cJ3_checkFromIndexSize_8c36e 5 = .ok (.ifCond .lt 10, 3) := by decide +kernel
theorem dJ3_checkFromIndexSize_8c36e_8 : decode cJ3_checkFromIndexSize_8c36e 8 = .ok (.iload_n 1, 1) := by decide +kernel
theorem dJ3_checkFromIndexSize_8c36e_9 : decode cJ3_checkFromIndexSize_8c36e 9 = .ok (.iload_n 2, 1) := by decide +kernel
theorem dJ3_checkFromIndexSize_8c36e_10 : decode cJ3_checkFromIndexSize_8c36e 10 = .ok (.iload_n 0, 1) := by decide +kernel
theorem dJ3_checkFromIndexSize_8c36e_11 : decode cJ3_checkFromIndexSize_8c36e 11 = .ok (.isub, 1) := by decide +kernel
theorem dJ3_checkFromIndexSize_8c36e_12 : decode cJ3_checkFromIndexSize_8c36e 12 = .ok (.if_icmp .le 11, 3) := by decide +kernel
theorem dJ3_checkFromIndexSize_8c36e_15 : decode cJ3_checkFromIndexSize_8c36e 15 = .ok (.aload_n 3, 1) := by decide +kernel
theorem dJ3_checkFromIndexSize_8c36e_16 : decode cJ3_checkFromIndexSize_8c36e 16 = .ok (.iload_n 0, 1) := by decide +kernel
theorem dJ3_checkFromIndexSize_8c36e_17 : decode cJ3_checkFromIndexSize_8c36e 17 = .ok (.iload_n 1, 1) := by decide +kernel
theorem dJ3_checkFromIndexSize_8c36e_18 : decode cJ3_checkFromIndexSize_8c36e 18 = .ok (.iload_n 2, 1) := by decide +kernel
theorem dJ3_checkFromIndexSize_8c36e_19 : decode cJ3_checkFromIndexSize_8c36e 19 = .ok (.invokestatic 103, 3) := by decide +kernel
theorem dJ3_checkFromIndexSize_8c36e_22 : decode cJ3_checkFromIndexSize_8c36e 22 = .ok (.athrow, 1) := by decide +kernel
theorem dJ3_checkFromIndexSize_8c36e_23 : decode cJ3_checkFromIndexSize_8c36e 23 = .ok (.iload_n 0, 1) := by decide +kernel
theorem dJ3_checkFromIndexSize_8c36e_24 : decode cJ3_checkFromIndexSize_8c36e 24 = .ok (.ireturn, 1) := by decide +kernel
theorem dL_cell_0 : decode cL_cell 0 = .ok (.iload_n 1, 1) := by decide +kernel
theorem dL_cell_1 : decode cL_cell 1 = .ok (.aload_n 0, 1) := by decide +kernel
theorem dL_cell_2 : decode cL_cell 2 = .ok (.arraylength, 1) := by decide +kernel
theorem dL_cell_3 : decode cL_cell 3 = .ok (.if_icmp .ge 12, 3) := by decide +kernel
theorem dL_cell_6 : decode cL_cell 6 = .ok (.aload_n 0, 1) := by decide +kernel
theorem dL_cell_7 : decode cL_cell 7 = .ok (.iload_n 1, 1) := by decide +kernel
theorem dL_cell_8 : decode cL_cell 8 = .ok (.iaload, 1) := by decide +kernel
theorem dL_cell_9 : decode cL_cell 9 = .ok (.ldc 7, 2) := by decide +kernel
theorem dL_cell_11 : decode cL_cell 11 = .ok (.iand, 1) := by decide +kernel
theorem dL_cell_12 : decode cL_cell 12 = .ok (.goto 4, 3) := by decide +kernel
theorem dL_cell_15 : decode cL_cell 15 = .ok (.iconst 0, 1) := by decide +kernel
theorem dL_cell_16 : decode cL_cell 16 = .ok (.ireturn, 1) := by decide +kernel
theorem dL_says_0 : decode cL_says 0 = .ok (.iconst 0, 1) := by decide +kernel
theorem dL_says_1 : decode cL_says 1 = .ok (.istore_n 2, 1) := by decide +kernel
theorem dL_says_2 : decode cL_says 2 = .ok (.iload_n 2, 1) := by decide +kernel
theorem dL_says_3 : decode cL_says 3 = .ok (.aload_n 1, 1) := by decide +kernel
theorem dL_says_4 : decode cL_says 4 = .ok (.invokevirtual 8, 3) := by decide +kernel
theorem dL_says_7 : decode cL_says 7 = .ok (.if_icmp .ge 89, 3) := by decide +kernel
theorem dL_says_10 : decode cL_says 10 = .ok (.iconst 5, 1) := by decide +kernel
theorem dL_says_11 : decode cL_says 11 = .ok (.newarray .int, 2) := by decide +kernel
theorem dL_says_13 : decode cL_says 13 = .ok (.astore_n 3, 1) := by decide +kernel
theorem dL_says_14 : decode cL_says 14 = .ok (.iconst 0, 1) := by decide +kernel
theorem dL_says_15 : decode cL_says 15 = .ok (.istore 4, 2) := by decide +kernel
theorem dL_says_17 : decode cL_says 17 = .ok (.iload 4, 2) := by decide +kernel
theorem dL_says_19 : decode cL_says 19 = .ok (.bipush 20, 2) := by decide +kernel
theorem dL_says_21 : decode cL_says 21 = .ok (.if_icmp .ge 49, 3) := by decide +kernel
theorem dL_says_24 : decode cL_says 24 = .ok (.aload_n 3, 1) := by decide +kernel
theorem dL_says_25 : decode cL_says 25 = .ok (.iload 4, 2) := by decide +kernel
theorem dL_says_27 : decode cL_says 27 = .ok (.iconst 4, 1) := by decide +kernel
theorem dL_says_28 : decode cL_says 28 = .ok (.idiv, 1) := by decide +kernel
theorem dL_says_29 : decode cL_says 29 = .ok (.aload_n 3, 1) := by decide +kernel
theorem dL_says_30 : decode cL_says 30 = .ok (.iload 4, 2) := by decide +kernel
theorem dL_says_32 : decode cL_says 32 = .ok (.iconst 4, 1) := by decide +kernel
theorem dL_says_33 : decode cL_says 33 = .ok (.idiv, 1) := by decide +kernel
theorem dL_says_34 : decode cL_says 34 = .ok (.iaload, 1) := by decide +kernel
theorem dL_says_35 : decode cL_says 35 = .ok (.bipush 8, 2) := by decide +kernel
theorem dL_says_37 : decode cL_says 37 = .ok (.ishl, 1) := by decide +kernel
theorem dL_says_38 : decode cL_says 38 = .ok (.iload_n 2, 1) := by decide +kernel
theorem dL_says_39 : decode cL_says 39 = .ok (.iload 4, 2) := by decide +kernel
theorem dL_says_41 : decode cL_says 41 = .ok (.iadd, 1) := by decide +kernel
theorem dL_says_42 : decode cL_says 42 = .ok (.aload_n 1, 1) := by decide +kernel
theorem dL_says_43 : decode cL_says 43 = .ok (.invokevirtual 8, 3) := by decide +kernel
theorem dL_says_46 : decode cL_says 46 = .ok (.if_icmp .ge 14, 3) := by decide +kernel
theorem dL_says_49 : decode cL_says 49 = .ok (.aload_n 1, 1) := by decide +kernel
theorem dL_says_50 : decode cL_says 50 = .ok (.iload_n 2, 1) := by decide +kernel
theorem dL_says_51 : decode cL_says 51 = .ok (.iload 4, 2) := by decide +kernel
theorem dL_says_53 : decode cL_says 53 = .ok (.iadd, 1) := by decide +kernel
theorem dL_says_54 : decode cL_says 54 = .ok (.invokevirtual 14, 3) := by decide +kernel
theorem dL_says_57 : decode cL_says 57 = .ok (.goto 5, 3) := by decide +kernel
theorem dL_says_60 : decode cL_says 60 = .ok (.bipush 32, 2) := by decide +kernel
theorem dL_says_62 : decode cL_says 62 = .ok (.ior, 1) := by decide +kernel
theorem dL_says_63 : decode cL_says 63 = .ok (.iastore, 1) := by decide +kernel
theorem dL_says_64 : decode cL_says 64 = .ok (.iinc 4 1, 3) := by decide +kernel
theorem dL_says_67 : decode cL_says 67 = .ok (.goto (-50), 3) := by decide +kernel
theorem dL_says_70 : decode cL_says 70 = .ok (.aload_n 0, 1) := by decide +kernel
theorem dL_says_71 : decode cL_says 71 = .ok (.aload_n 3, 1) := by decide +kernel
theorem dL_says_72 : decode cL_says 72 = .ok (.iconst 0, 1) := by decide +kernel
theorem dL_says_73 : decode cL_says 73 = .ok (.iaload, 1) := by decide +kernel
theorem dL_says_74 : decode cL_says 74 = .ok (.aload_n 3, 1) := by decide +kernel
theorem dL_says_75 : decode cL_says 75 = .ok (.iconst 1, 1) := by decide +kernel
theorem dL_says_76 : decode cL_says 76 = .ok (.iaload, 1) := by decide +kernel
theorem dL_says_77 : decode cL_says 77 = .ok (.aload_n 3, 1) := by decide +kernel
theorem dL_says_78 : decode cL_says 78 = .ok (.iconst 2, 1) := by decide +kernel
theorem dL_says_79 : decode cL_says 79 = .ok (.iaload, 1) := by decide +kernel
theorem dL_says_80 : decode cL_says 80 = .ok (.aload_n 3, 1) := by decide +kernel
theorem dL_says_81 : decode cL_says 81 = .ok (.iconst 3, 1) := by decide +kernel
theorem dL_says_82 : decode cL_says 82 = .ok (.iaload, 1) := by decide +kernel
theorem dL_says_83 : decode cL_says 83 = .ok (.aload_n 3, 1) := by decide +kernel
theorem dL_says_84 : decode cL_says 84 = .ok (.iconst 4, 1) := by decide +kernel
theorem dL_says_85 : decode cL_says 85 = .ok (.iaload, 1) := by decide +kernel
theorem dL_says_86 : decode cL_says 86 = .ok (.invokevirtual 18, 3) := by decide +kernel
theorem dL_says_89 : decode cL_says 89 = .ok (.pop, 1) := by decide +kernel
theorem dL_says_90 : decode cL_says 90 = .ok (.iinc 2 20, 3) := by decide +kernel
theorem dL_says_93 : decode cL_says 93 = .ok (.goto (-91), 3) := by decide +kernel
theorem dL_says_96 : decode cL_says 96 = .ok (.aload_n 0, 1) := by decide +kernel
theorem dL_says_97 : decode cL_says 97 = .ok (.aload_n 1, 1) := by decide +kernel
theorem dL_says_98 : decode cL_says 98 = .ok (.invokevirtual 8, 3) := by decide +kernel
theorem dL_says_101 : decode cL_says 101 = .ok (.invokevirtual 24, 3) := by decide +kernel
theorem dL_says_104 : decode cL_says 104 = .ok (.pop, 1) := by decide +kernel
theorem dL_says_105 : decode cL_says 105 = .ok (.return_, 1) := by decide +kernel
theorem dL_loaded_0 : decode cL_loaded 0 = .ok (.aload_n 0, 1) := by decide +kernel
theorem dL_loaded_1 : decode cL_loaded 1 = .ok (.invokevirtual 28, 3) := by decide +kernel
theorem dL_loaded_4 : decode cL_loaded 4 = .ok (.ireturn, 1) := by decide +kernel
theorem dL_loaded_5 : decode cL_loaded 5 = .ok (.astore_n 1, 1) := by decide +kernel
theorem dL_loaded_6 : decode cL_loaded 6 = .ok (.bipush (-9), 2) := by decide +kernel
theorem dL_loaded_8 : decode cL_loaded 8 = .ok (.ireturn, 1) := by decide +kernel
theorem dL_odds_0 : decode cL_odds 0 = .ok (.iload_n 1, 1) := by decide +kernel
theorem dL_odds_1 : decode cL_odds 1 = .ok (.ifCond .ne 18, 3) := by decide +kernel
theorem dL_odds_4 : decode cL_odds 4 = .ok (.aload_n 0, 1) := by decide +kernel
theorem dL_odds_5 : decode cL_odds 5 = .ok (.iconst 0, 1) := by decide +kernel
theorem dL_odds_6 : decode cL_odds 6 = .ok (.invokestatic 33, 3) := by decide +kernel
theorem dL_odds_9 : decode cL_odds 9 = .ok (.sipush 1024, 3) := by decide +kernel
theorem dL_odds_12 : decode cL_odds 12 = .ok (.idiv, 1) := by decide +kernel
theorem dL_odds_13 : decode cL_odds 13 = .ok (.bipush 21, 2) := by decide +kernel
theorem dL_odds_15 : decode cL_odds 15 = .ok (.irem, 1) := by decide +kernel
theorem dL_odds_16 : decode cL_odds 16 = .ok (.goto 32, 3) := by decide +kernel
theorem dL_odds_19 : decode cL_odds 19 = .ok (.iload_n 1, 1) := by decide +kernel
theorem dL_odds_20 : decode cL_odds 20 = .ok (.iconst 1, 1) := by decide +kernel
theorem dL_odds_21 : decode cL_odds 21 = .ok (.if_icmp .ne 17, 3) := by decide +kernel
theorem dL_odds_24 : decode cL_odds 24 = .ok (.aload_n 0, 1) := by decide +kernel
theorem dL_odds_25 : decode cL_odds 25 = .ok (.iconst 0, 1) := by decide +kernel
theorem dL_odds_26 : decode cL_odds 26 = .ok (.invokestatic 33, 3) := by decide +kernel
theorem dL_odds_29 : decode cL_odds 29 = .ok (.ldc 39, 2) := by decide +kernel
theorem dL_odds_31 : decode cL_odds 31 = .ok (.idiv, 1) := by decide +kernel
theorem dL_odds_32 : decode cL_odds 32 = .ok (.bipush 21, 2) := by decide +kernel
theorem dL_odds_34 : decode cL_odds 34 = .ok (.irem, 1) := by decide +kernel
theorem dL_odds_35 : decode cL_odds 35 = .ok (.goto 13, 3) := by decide +kernel
theorem dL_odds_38 : decode cL_odds 38 = .ok (.iconst 1, 1) := by decide +kernel
theorem dL_odds_39 : decode cL_odds 39 = .ok (.aload_n 0, 1) := by decide +kernel
theorem dL_odds_40 : decode cL_odds 40 = .ok (.iconst 1, 1) := by decide +kernel
theorem dL_odds_41 : decode cL_odds 41 = .ok (.invokestatic 33, 3) := by decide +kernel
theorem dL_odds_44 : decode cL_odds 44 = .ok (.bipush 20, 2) := by decide +kernel
theorem dL_odds_46 : decode cL_odds 46 = .ok (.irem, 1) := by decide +kernel
theorem dL_odds_47 : decode cL_odds 47 = .ok (.iadd, 1) := by decide +kernel
theorem dL_odds_48 : decode cL_odds 48 = .ok (.ireturn, 1) := by decide +kernel
theorem dL_people_0 : decode cL_people 0 = .ok (.iconst 1, 1) := by decide +kernel
theorem dL_people_1 : decode cL_people 1 = .ok (.aload_n 0, 1) := by decide +kernel
theorem dL_people_2 : decode cL_people 2 = .ok (.iconst 2, 1) := by decide +kernel
theorem dL_people_3 : decode cL_people 3 = .ok (.iload_n 1, 1) := by decide +kernel
theorem dL_people_4 : decode cL_people 4 = .ok (.iadd, 1) := by decide +kernel
theorem dL_people_5 : decode cL_people 5 = .ok (.invokestatic 33, 3) := by decide +kernel
theorem dL_people_8 : decode cL_people 8 = .ok (.bipush 99, 2) := by decide +kernel
theorem dL_people_10 : decode cL_people 10 = .ok (.irem, 1) := by decide +kernel
theorem dL_people_11 : decode cL_people 11 = .ok (.iadd, 1) := by decide +kernel
theorem dL_people_12 : decode cL_people 12 = .ok (.ireturn, 1) := by decide +kernel
theorem dL_trust_0 : decode cL_trust 0 = .ok (.aload_n 0, 1) := by decide +kernel
theorem dL_trust_1 : decode cL_trust 1 = .ok (.iconst 2, 1) := by decide +kernel
theorem dL_trust_2 : decode cL_trust 2 = .ok (.iload_n 1, 1) := by decide +kernel
theorem dL_trust_3 : decode cL_trust 3 = .ok (.iadd, 1) := by decide +kernel
theorem dL_trust_4 : decode cL_trust 4 = .ok (.invokestatic 33, 3) := by decide +kernel
theorem dL_trust_7 : decode cL_trust 7 = .ok (.sipush 128, 3) := by decide +kernel
theorem dL_trust_10 : decode cL_trust 10 = .ok (.idiv, 1) := by decide +kernel
theorem dL_trust_11 : decode cL_trust 11 = .ok (.bipush 101, 2) := by decide +kernel
theorem dL_trust_13 : decode cL_trust 13 = .ok (.irem, 1) := by decide +kernel
theorem dL_trust_14 : decode cL_trust 14 = .ok (.ireturn, 1) := by decide +kernel
theorem dL_place_0 : decode cL_place 0 = .ok (.aload_n 0, 1) := by decide +kernel
theorem dL_place_1 : decode cL_place 1 = .ok (.iconst 5, 1) := by decide +kernel
theorem dL_place_2 : decode cL_place 2 = .ok (.iload_n 1, 1) := by decide +kernel
theorem dL_place_3 : decode cL_place 3 = .ok (.iadd, 1) := by decide +kernel
theorem dL_place_4 : decode cL_place 4 = .ok (.invokestatic 33, 3) := by decide +kernel
theorem dL_place_7 : decode cL_place 7 = .ok (.iconst 3, 1) := by decide +kernel
theorem dL_place_8 : decode cL_place 8 = .ok (.irem, 1) := by decide +kernel
theorem dL_place_9 : decode cL_place 9 = .ok (.ireturn, 1) := by decide +kernel
theorem dL_period_0 : decode cL_period 0 = .ok (.iconst 1, 1) := by decide +kernel
theorem dL_period_1 : decode cL_period 1 = .ok (.aload_n 0, 1) := by decide +kernel
theorem dL_period_2 : decode cL_period 2 = .ok (.iconst 5, 1) := by decide +kernel
theorem dL_period_3 : decode cL_period 3 = .ok (.iload_n 1, 1) := by decide +kernel
theorem dL_period_4 : decode cL_period 4 = .ok (.iadd, 1) := by decide +kernel
theorem dL_period_5 : decode cL_period 5 = .ok (.invokestatic 33, 3) := by decide +kernel
theorem dL_period_8 : decode cL_period 8 = .ok (.iconst 4, 1) := by decide +kernel
theorem dL_period_9 : decode cL_period 9 = .ok (.idiv, 1) := by decide +kernel
theorem dL_period_10 : decode cL_period 10 = .ok (.bipush 12, 2) := by decide +kernel
theorem dL_period_12 : decode cL_period 12 = .ok (.irem, 1) := by decide +kernel
theorem dL_period_13 : decode cL_period 13 = .ok (.iadd, 1) := by decide +kernel
theorem dL_period_14 : decode cL_period 14 = .ok (.ireturn, 1) := by decide +kernel
theorem dL_stock_0 : decode cL_stock 0 = .ok (.iconst 1, 1) := by decide +kernel
theorem dL_stock_1 : decode cL_stock 1 = .ok (.aload_n 0, 1) := by decide +kernel
theorem dL_stock_2 : decode cL_stock 2 = .ok (.iconst 5, 1) := by decide +kernel
theorem dL_stock_3 : decode cL_stock 3 = .ok (.iload_n 1, 1) := by decide +kernel
theorem dL_stock_4 : decode cL_stock 4 = .ok (.iadd, 1) := by decide +kernel
theorem dL_stock_5 : decode cL_stock 5 = .ok (.invokestatic 33, 3) := by decide +kernel
theorem dL_stock_8 : decode cL_stock 8 = .ok (.bipush 64, 2) := by decide +kernel
theorem dL_stock_10 : decode cL_stock 10 = .ok (.idiv, 1) := by decide +kernel
theorem dL_stock_11 : decode cL_stock 11 = .ok (.bipush 40, 2) := by decide +kernel
theorem dL_stock_13 : decode cL_stock 13 = .ok (.irem, 1) := by decide +kernel
theorem dL_stock_14 : decode cL_stock 14 = .ok (.iadd, 1) := by decide +kernel
theorem dL_stock_15 : decode cL_stock 15 = .ok (.ireturn, 1) := by decide +kernel
theorem dL_price_0 : decode cL_price 0 = .ok (.iconst 1, 1) := by decide +kernel
theorem dL_price_1 : decode cL_price 1 = .ok (.aload_n 0, 1) := by decide +kernel
theorem dL_price_2 : decode cL_price 2 = .ok (.iconst 5, 1) := by decide +kernel
theorem dL_price_3 : decode cL_price 3 = .ok (.iload_n 1, 1) := by decide +kernel
theorem dL_price_4 : decode cL_price 4 = .ok (.iadd, 1) := by decide +kernel
theorem dL_price_5 : decode cL_price 5 = .ok (.invokestatic 33, 3) := by decide +kernel
theorem dL_price_8 : decode cL_price 8 = .ok (.sipush 4096, 3) := by decide +kernel
theorem dL_price_11 : decode cL_price 11 = .ok (.idiv, 1) := by decide +kernel
theorem dL_price_12 : decode cL_price 12 = .ok (.bipush 20, 2) := by decide +kernel
theorem dL_price_14 : decode cL_price 14 = .ok (.irem, 1) := by decide +kernel
theorem dL_price_15 : decode cL_price 15 = .ok (.iadd, 1) := by decide +kernel
theorem dL_price_16 : decode cL_price 16 = .ok (.ireturn, 1) := by decide +kernel
theorem dL_text_0 : decode cL_text 0 = .ok (.new 40, 3) := by decide +kernel
theorem dL_text_3 : decode cL_text 3 = .ok (.dup, 1) := by decide +kernel
theorem dL_text_4 : decode cL_text 4 = .ok (.ldc 42, 2) := by decide +kernel
theorem dL_text_6 : decode cL_text 6 = .ok (.invokespecial 44, 3) := by decide +kernel
theorem dL_text_9 : decode cL_text 9 = .ok (.aload_n 0, 1) := by decide +kernel
theorem dL_text_10 : decode cL_text 10 = .ok (.iconst 0, 1) := by decide +kernel
theorem dL_text_11 : decode cL_text 11 = .ok (.invokestatic 33, 3) := by decide +kernel
theorem dL_text_14 : decode cL_text 14 = .ok (.sipush 1024, 3) := by decide +kernel
theorem dL_text_17 : decode cL_text 17 = .ok (.irem, 1) := by decide +kernel
theorem dL_text_18 : decode cL_text 18 = .ok (.invokevirtual 47, 3) := by decide +kernel
theorem dL_text_21 : decode cL_text 21 = .ok (.bipush 32, 2) := by decide +kernel
theorem dL_text_23 : decode cL_text 23 = .ok (.invokevirtual 51, 3) := by decide +kernel
theorem dL_text_26 : decode cL_text 26 = .ok (.aload_n 0, 1) := by decide +kernel
theorem dL_text_27 : decode cL_text 27 = .ok (.iconst 0, 1) := by decide +kernel
theorem dL_text_28 : decode cL_text 28 = .ok (.invokestatic 54, 3) := by decide +kernel
theorem dL_text_31 : decode cL_text 31 = .ok (.invokevirtual 47, 3) := by decide +kernel
theorem dL_text_34 : decode cL_text 34 = .ok (.bipush 32, 2) := by decide +kernel
theorem dL_text_36 : decode cL_text 36 = .ok (.invokevirtual 51, 3) := by decide +kernel
theorem dL_text_39 : decode cL_text 39 = .ok (.aload_n 0, 1) := by decide +kernel
theorem dL_text_40 : decode cL_text 40 = .ok (.iconst 1, 1) := by decide +kernel
theorem dL_text_41 : decode cL_text 41 = .ok (.invokestatic 54, 3) := by decide +kernel
theorem dL_text_44 : decode cL_text 44 = .ok (.invokevirtual 47, 3) := by decide +kernel
theorem dL_text_47 : decode cL_text 47 = .ok (.bipush 32, 2) := by decide +kernel
theorem dL_text_49 : decode cL_text 49 = .ok (.invokevirtual 51, 3) := by decide +kernel
theorem dL_text_52 : decode cL_text 52 = .ok (.aload_n 0, 1) := by decide +kernel
theorem dL_text_53 : decode cL_text 53 = .ok (.iconst 2, 1) := by decide +kernel
theorem dL_text_54 : decode cL_text 54 = .ok (.invokestatic 54, 3) := by decide +kernel
theorem dL_text_57 : decode cL_text 57 = .ok (.invokevirtual 47, 3) := by decide +kernel
theorem dL_text_60 : decode cL_text 60 = .ok (.bipush 59, 2) := by decide +kernel
theorem dL_text_62 : decode cL_text 62 = .ok (.invokevirtual 51, 3) := by decide +kernel
theorem dL_text_65 : decode cL_text 65 = .ok (.astore_n 1, 1) := by decide +kernel
theorem dL_text_66 : decode cL_text 66 = .ok (.iconst 0, 1) := by decide +kernel
theorem dL_text_67 : decode cL_text 67 = .ok (.istore_n 2, 1) := by decide +kernel
theorem dL_text_68 : decode cL_text 68 = .ok (.iload_n 2, 1) := by decide +kernel
theorem dL_text_69 : decode cL_text 69 = .ok (.iconst 3, 1) := by decide +kernel
theorem dL_text_70 : decode cL_text 70 = .ok (.if_icmp .ge 55, 3) := by decide +kernel
theorem dL_text_73 : decode cL_text 73 = .ok (.aload_n 1, 1) := by decide +kernel
theorem dL_text_74 : decode cL_text 74 = .ok (.ldc 57, 2) := by decide +kernel
theorem dL_text_76 : decode cL_text 76 = .ok (.invokevirtual 59, 3) := by decide +kernel
theorem dL_text_79 : decode cL_text 79 = .ok (.bipush 97, 2) := by decide +kernel
theorem dL_text_81 : decode cL_text 81 = .ok (.iload_n 2, 1) := by decide +kernel
theorem dL_text_82 : decode cL_text 82 = .ok (.iadd, 1) := by decide +kernel
theorem dL_text_83 : decode cL_text 83 = .ok (.i2c, 1) := by decide +kernel
theorem dL_text_84 : decode cL_text 84 = .ok (.invokevirtual 51, 3) := by decide +kernel
theorem dL_text_87 : decode cL_text 87 = .ok (.bipush 32, 2) := by decide +kernel
theorem dL_text_89 : decode cL_text 89 = .ok (.invokevirtual 51, 3) := by decide +kernel
theorem dL_text_92 : decode cL_text 92 = .ok (.aload_n 0, 1) := by decide +kernel
theorem dL_text_93 : decode cL_text 93 = .ok (.iload_n 2, 1) := by decide +kernel
theorem dL_text_94 : decode cL_text 94 = .ok (.invokestatic 62, 3) := by decide +kernel
theorem dL_text_97 : decode cL_text 97 = .ok (.invokevirtual 47, 3) := by decide +kernel
theorem dL_text_100 : decode cL_text 100 = .ok (.bipush 32, 2) := by decide +kernel
theorem dL_text_102 : decode cL_text 102 = .ok (.invokevirtual 51, 3) := by decide +kernel
theorem dL_text_105 : decode cL_text 105 = .ok (.aload_n 0, 1) := by decide +kernel
theorem dL_text_106 : decode cL_text 106 = .ok (.iload_n 2, 1) := by decide +kernel
theorem dL_text_107 : decode cL_text 107 = .ok (.invokestatic 65, 3) := by decide +kernel
theorem dL_text_110 : decode cL_text 110 = .ok (.invokevirtual 47, 3) := by decide +kernel
theorem dL_text_113 : decode cL_text 113 = .ok (.bipush 59, 2) := by decide +kernel
theorem dL_text_115 : decode cL_text 115 = .ok (.invokevirtual 51, 3) := by decide +kernel
theorem dL_text_118 : decode cL_text 118 = .ok (.pop, 1) := by decide +kernel
theorem dL_text_119 : decode cL_text 119 = .ok (.iinc 2 1, 3) := by decide +kernel
theorem dL_text_122 : decode cL_text 122 = .ok (.goto (-54), 3) := by decide +kernel
theorem dL_text_125 : decode cL_text 125 = .ok (.iconst 0, 1) := by decide +kernel
theorem dL_text_126 : decode cL_text 126 = .ok (.istore_n 2, 1) := by decide +kernel
theorem dL_text_127 : decode cL_text 127 = .ok (.iload_n 2, 1) := by decide +kernel
theorem dL_text_128 : decode cL_text 128 = .ok (.iconst 2, 1) := by decide +kernel
theorem dL_text_129 : decode cL_text 129 = .ok (.if_icmp .ge 85, 3) := by decide +kernel
theorem dL_text_132 : decode cL_text 132 = .ok (.aload_n 1, 1) := by decide +kernel
theorem dL_text_133 : decode cL_text 133 = .ok (.ldc 68, 2) := by decide +kernel
theorem dL_text_135 : decode cL_text 135 = .ok (.invokevirtual 59, 3) := by decide +kernel
theorem dL_text_138 : decode cL_text 138 = .ok (.bipush 112, 2) := by decide +kernel
theorem dL_text_140 : decode cL_text 140 = .ok (.iload_n 2, 1) := by decide +kernel
theorem dL_text_141 : decode cL_text 141 = .ok (.iadd, 1) := by decide +kernel
theorem dL_text_142 : decode cL_text 142 = .ok (.i2c, 1) := by decide +kernel
theorem dL_text_143 : decode cL_text 143 = .ok (.invokevirtual 51, 3) := by decide +kernel
theorem dL_text_146 : decode cL_text 146 = .ok (.bipush 32, 2) := by decide +kernel
theorem dL_text_148 : decode cL_text 148 = .ok (.invokevirtual 51, 3) := by decide +kernel
theorem dL_text_151 : decode cL_text 151 = .ok (.bipush 97, 2) := by decide +kernel
theorem dL_text_153 : decode cL_text 153 = .ok (.aload_n 0, 1) := by decide +kernel
theorem dL_text_154 : decode cL_text 154 = .ok (.iload_n 2, 1) := by decide +kernel
theorem dL_text_155 : decode cL_text 155 = .ok (.invokestatic 70, 3) := by decide +kernel
theorem dL_text_158 : decode cL_text 158 = .ok (.iadd, 1) := by decide +kernel
theorem dL_text_159 : decode cL_text 159 = .ok (.i2c, 1) := by decide +kernel
theorem dL_text_160 : decode cL_text 160 = .ok (.invokevirtual 51, 3) := by decide +kernel
theorem dL_text_163 : decode cL_text 163 = .ok (.bipush 32, 2) := by decide +kernel
theorem dL_text_165 : decode cL_text 165 = .ok (.invokevirtual 51, 3) := by decide +kernel
theorem dL_text_168 : decode cL_text 168 = .ok (.aload_n 0, 1) := by decide +kernel
theorem dL_text_169 : decode cL_text 169 = .ok (.iload_n 2, 1) := by decide +kernel
theorem dL_text_170 : decode cL_text 170 = .ok (.invokestatic 73, 3) := by decide +kernel
theorem dL_text_173 : decode cL_text 173 = .ok (.invokevirtual 47, 3) := by decide +kernel
theorem dL_text_176 : decode cL_text 176 = .ok (.bipush 32, 2) := by decide +kernel
theorem dL_text_178 : decode cL_text 178 = .ok (.invokevirtual 51, 3) := by decide +kernel
theorem dL_text_181 : decode cL_text 181 = .ok (.aload_n 0, 1) := by decide +kernel
theorem dL_text_182 : decode cL_text 182 = .ok (.iload_n 2, 1) := by decide +kernel
theorem dL_text_183 : decode cL_text 183 = .ok (.invokestatic 76, 3) := by decide +kernel
theorem dL_text_186 : decode cL_text 186 = .ok (.invokevirtual 47, 3) := by decide +kernel
theorem dL_text_189 : decode cL_text 189 = .ok (.bipush 32, 2) := by decide +kernel
theorem dL_text_191 : decode cL_text 191 = .ok (.invokevirtual 51, 3) := by decide +kernel
theorem dL_text_194 : decode cL_text 194 = .ok (.aload_n 0, 1) := by decide +kernel
theorem dL_text_195 : decode cL_text 195 = .ok (.iload_n 2, 1) := by decide +kernel
theorem dL_text_196 : decode cL_text 196 = .ok (.invokestatic 79, 3) := by decide +kernel
theorem dL_text_199 : decode cL_text 199 = .ok (.invokevirtual 47, 3) := by decide +kernel
theorem dL_text_202 : decode cL_text 202 = .ok (.bipush 59, 2) := by decide +kernel
theorem dL_text_204 : decode cL_text 204 = .ok (.invokevirtual 51, 3) := by decide +kernel
theorem dL_text_207 : decode cL_text 207 = .ok (.pop, 1) := by decide +kernel
theorem dL_text_208 : decode cL_text 208 = .ok (.iinc 2 1, 3) := by decide +kernel
theorem dL_text_211 : decode cL_text 211 = .ok (.goto (-84), 3) := by decide +kernel
theorem dL_text_214 : decode cL_text 214 = .ok (.aload_n 1, 1) := by decide +kernel
theorem dL_text_215 : decode cL_text 215 = .ok (.invokevirtual 82, 3) := by decide +kernel
theorem dL_text_218 : decode cL_text 218 = .ok (.areturn, 1) := by decide +kernel
theorem dL_acts_0 : decode cL_acts 0 = .ok (.iload_n 1, 1) := by decide +kernel
theorem dL_acts_1 : decode cL_acts 1 = .ok (.bipush 32, 2) := by decide +kernel
theorem dL_acts_3 : decode cL_acts 3 = .ok (.idiv, 1) := by decide +kernel
theorem dL_acts_4 : decode cL_acts 4 = .ok (.istore_n 2, 1) := by decide +kernel
theorem dL_acts_5 : decode cL_acts 5 = .ok (.iload_n 2, 1) := by decide +kernel
theorem dL_acts_6 : decode cL_acts 6 = .ok (.bipush 16, 2) := by decide +kernel
theorem dL_acts_8 : decode cL_acts 8 = .ok (.idiv, 1) := by decide +kernel
theorem dL_acts_9 : decode cL_acts 9 = .ok (.istore_n 3, 1) := by decide +kernel
theorem dL_acts_10 : decode cL_acts 10 = .ok (.iload_n 1, 1) := by decide +kernel
theorem dL_acts_11 : decode cL_acts 11 = .ok (.bipush 32, 2) := by decide +kernel
theorem dL_acts_13 : decode cL_acts 13 = .ok (.irem, 1) := by decide +kernel
theorem dL_acts_14 : decode cL_acts 14 = .ok (.bipush 12, 2) := by decide +kernel
theorem dL_acts_16 : decode cL_acts 16 = .ok (.if_icmp .lt 22, 3) := by decide +kernel
theorem dL_acts_19 : decode cL_acts 19 = .ok (.iload_n 1, 1) := by decide +kernel
theorem dL_acts_20 : decode cL_acts 20 = .ok (.bipush 32, 2) := by decide +kernel
theorem dL_acts_22 : decode cL_acts 22 = .ok (.irem, 1) := by decide +kernel
theorem dL_acts_23 : decode cL_acts 23 = .ok (.bipush 15, 2) := by decide +kernel
theorem dL_acts_25 : decode cL_acts 25 = .ok (.if_icmp .ge 13, 3) := by decide +kernel
theorem dL_acts_28 : decode cL_acts 28 = .ok (.aload_n 0, 1) := by decide +kernel
theorem dL_acts_29 : decode cL_acts 29 = .ok (.invokevirtual 86, 3) := by decide +kernel
theorem dL_acts_32 : decode cL_acts 32 = .ok (.ifCond .ne 6, 3) := by decide +kernel
theorem dL_acts_35 : decode cL_acts 35 = .ok (.bipush (-8), 2) := by decide +kernel
theorem dL_acts_37 : decode cL_acts 37 = .ok (.ireturn, 1) := by decide +kernel
theorem dL_acts_38 : decode cL_acts 38 = .ok (.iload_n 1, 1) := by decide +kernel
theorem dL_acts_39 : decode cL_acts 39 = .ok (.bipush 32, 2) := by decide +kernel
theorem dL_acts_41 : decode cL_acts 41 = .ok (.irem, 1) := by decide +kernel
theorem dL_acts_42 : decode cL_acts 42 = .ok (.tableswitch 164 0 18 #[90, 90, 90, 90, 90, 90, 90, 90, 90, 90, 90, 90, 115, 115, 115, 126, 138, 152, 152], 90) := by decide +kernel
theorem dL_acts_132 : decode cL_acts 132 = .ok (.aload_n 0, 1) := by decide +kernel
theorem dL_acts_133 : decode cL_acts 133 = .ok (.iload_n 2, 1) := by decide +kernel
theorem dL_acts_134 : decode cL_acts 134 = .ok (.iconst 3, 1) := by decide +kernel
theorem dL_acts_135 : decode cL_acts 135 = .ok (.irem, 1) := by decide +kernel
theorem dL_acts_136 : decode cL_acts 136 = .ok (.aload_n 0, 1) := by decide +kernel
theorem dL_acts_137 : decode cL_acts 137 = .ok (.invokevirtual 89, 3) := by decide +kernel
theorem dL_acts_140 : decode cL_acts 140 = .ok (.iload_n 3, 1) := by decide +kernel
theorem dL_acts_141 : decode cL_acts 141 = .ok (.bipush 36, 2) := by decide +kernel
theorem dL_acts_143 : decode cL_acts 143 = .ok (.irem, 1) := by decide +kernel
theorem dL_acts_144 : decode cL_acts 144 = .ok (.iadd, 1) := by decide +kernel
theorem dL_acts_145 : decode cL_acts 145 = .ok (.iconst 2, 1) := by decide +kernel
theorem dL_acts_146 : decode cL_acts 146 = .ok (.isub, 1) := by decide +kernel
theorem dL_acts_147 : decode cL_acts 147 = .ok (.iload_n 3, 1) := by decide +kernel
theorem dL_acts_148 : decode cL_acts 148 = .ok (.bipush 64, 2) := by decide +kernel
theorem dL_acts_150 : decode cL_acts 150 = .ok (.idiv, 1) := by decide +kernel
theorem dL_acts_151 : decode cL_acts 151 = .ok (.iconst 3, 1) := by decide +kernel
theorem dL_acts_152 : decode cL_acts 152 = .ok (.irem, 1) := by decide +kernel
theorem dL_acts_153 : decode cL_acts 153 = .ok (.invokevirtual 92, 3) := by decide +kernel
theorem dL_acts_156 : decode cL_acts 156 = .ok (.ireturn, 1) := by decide +kernel
theorem dL_acts_157 : decode cL_acts 157 = .ok (.aload_n 0, 1) := by decide +kernel
theorem dL_acts_158 : decode cL_acts 158 = .ok (.iload_n 2, 1) := by decide +kernel
theorem dL_acts_159 : decode cL_acts 159 = .ok (.aload_n 0, 1) := by decide +kernel
theorem dL_acts_160 : decode cL_acts 160 = .ok (.invokevirtual 86, 3) := by decide +kernel
theorem dL_acts_163 : decode cL_acts 163 = .ok (.irem, 1) := by decide +kernel
theorem dL_acts_164 : decode cL_acts 164 = .ok (.invokevirtual 96, 3) := by decide +kernel
theorem dL_acts_167 : decode cL_acts 167 = .ok (.ireturn, 1) := by decide +kernel
theorem dL_acts_168 : decode cL_acts 168 = .ok (.aload_n 0, 1) := by decide +kernel
theorem dL_acts_169 : decode cL_acts 169 = .ok (.iload_n 2, 1) := by decide +kernel
theorem dL_acts_170 : decode cL_acts 170 = .ok (.iconst 3, 1) := by decide +kernel
theorem dL_acts_171 : decode cL_acts 171 = .ok (.irem, 1) := by decide +kernel
theorem dL_acts_172 : decode cL_acts 172 = .ok (.iload_n 3, 1) := by decide +kernel
theorem dL_acts_173 : decode cL_acts 173 = .ok (.bipush 101, 2) := by decide +kernel
theorem dL_acts_175 : decode cL_acts 175 = .ok (.irem, 1) := by decide +kernel
theorem dL_acts_176 : decode cL_acts 176 = .ok (.invokevirtual 99, 3) := by decide +kernel
theorem dL_acts_179 : decode cL_acts 179 = .ok (.ireturn, 1) := by decide +kernel
theorem dL_acts_180 : decode cL_acts 180 = .ok (.aload_n 0, 1) := by decide +kernel
theorem dL_acts_181 : decode cL_acts 181 = .ok (.iload_n 2, 1) := by decide +kernel
theorem dL_acts_182 : decode cL_acts 182 = .ok (.iconst 3, 1) := by decide +kernel
theorem dL_acts_183 : decode cL_acts 183 = .ok (.irem, 1) := by decide +kernel
theorem dL_acts_184 : decode cL_acts 184 = .ok (.iconst 1, 1) := by decide +kernel
theorem dL_acts_185 : decode cL_acts 185 = .ok (.iload_n 3, 1) := by decide +kernel
theorem dL_acts_186 : decode cL_acts 186 = .ok (.bipush 99, 2) := by decide +kernel
theorem dL_acts_188 : decode cL_acts 188 = .ok (.irem, 1) := by decide +kernel
theorem dL_acts_189 : decode cL_acts 189 = .ok (.iadd, 1) := by decide +kernel
theorem dL_acts_190 : decode cL_acts 190 = .ok (.invokevirtual 103, 3) := by decide +kernel
theorem dL_acts_193 : decode cL_acts 193 = .ok (.ireturn, 1) := by decide +kernel
theorem dL_acts_194 : decode cL_acts 194 = .ok (.aload_n 0, 1) := by decide +kernel
theorem dL_acts_195 : decode cL_acts 195 = .ok (.iload_n 2, 1) := by decide +kernel
theorem dL_acts_196 : decode cL_acts 196 = .ok (.iconst 3, 1) := by decide +kernel
theorem dL_acts_197 : decode cL_acts 197 = .ok (.irem, 1) := by decide +kernel
theorem dL_acts_198 : decode cL_acts 198 = .ok (.iload_n 3, 1) := by decide +kernel
theorem dL_acts_199 : decode cL_acts 199 = .ok (.bipush 21, 2) := by decide +kernel
theorem dL_acts_201 : decode cL_acts 201 = .ok (.irem, 1) := by decide +kernel
theorem dL_acts_202 : decode cL_acts 202 = .ok (.invokevirtual 106, 3) := by decide +kernel
theorem dL_acts_205 : decode cL_acts 205 = .ok (.ireturn, 1) := by decide +kernel
theorem dL_acts_206 : decode cL_acts 206 = .ok (.aload_n 0, 1) := by decide +kernel
theorem dL_acts_207 : decode cL_acts 207 = .ok (.iconst 1, 1) := by decide +kernel
theorem dL_acts_208 : decode cL_acts 208 = .ok (.iload_n 3, 1) := by decide +kernel
theorem dL_acts_209 : decode cL_acts 209 = .ok (.iload_n 1, 1) := by decide +kernel
theorem dL_acts_210 : decode cL_acts 210 = .ok (.bipush 32, 2) := by decide +kernel
theorem dL_acts_212 : decode cL_acts 212 = .ok (.irem, 1) := by decide +kernel
theorem dL_acts_213 : decode cL_acts 213 = .ok (.bipush 29, 2) := by decide +kernel
theorem dL_acts_215 : decode cL_acts 215 = .ok (.if_icmp .ge 7, 3) := by decide +kernel
theorem dL_acts_218 : decode cL_acts 218 = .ok (.iconst 3, 1) := by decide +kernel
theorem dL_acts_219 : decode cL_acts 219 = .ok (.goto 5, 3) := by decide +kernel
theorem dL_acts_222 : decode cL_acts 222 = .ok (.bipush 25, 2) := by decide +kernel
theorem dL_acts_224 : decode cL_acts 224 = .ok (.irem, 1) := by decide +kernel
theorem dL_acts_225 : decode cL_acts 225 = .ok (.iadd, 1) := by decide +kernel
theorem dL_acts_226 : decode cL_acts 226 = .ok (.invokevirtual 109, 3) := by decide +kernel
theorem dL_acts_229 : decode cL_acts 229 = .ok (.ireturn, 1) := by decide +kernel
theorem dL_acts_230 : decode cL_acts 230 = .ok (.astore 4, 2) := by decide +kernel
theorem dL_acts_232 : decode cL_acts 232 = .ok (.bipush (-9), 2) := by decide +kernel
theorem dL_acts_234 : decode cL_acts 234 = .ok (.ireturn, 1) := by decide +kernel
theorem dL_law_0 : decode cL_law 0 = .ok (.new 19, 3) := by decide +kernel
theorem dL_law_3 : decode cL_law 3 = .ok (.dup, 1) := by decide +kernel
theorem dL_law_4 : decode cL_law 4 = .ok (.invokespecial 114, 3) := by decide +kernel
theorem dL_law_7 : decode cL_law 7 = .ok (.astore_n 1, 1) := by decide +kernel
theorem dL_law_8 : decode cL_law 8 = .ok (.aload_n 1, 1) := by decide +kernel
theorem dL_law_9 : decode cL_law 9 = .ok (.aload_n 0, 1) := by decide +kernel
theorem dL_law_10 : decode cL_law 10 = .ok (.invokestatic 115, 3) := by decide +kernel
theorem dL_law_13 : decode cL_law 13 = .ok (.invokestatic 119, 3) := by decide +kernel
theorem dL_law_16 : decode cL_law 16 = .ok (.aload_n 1, 1) := by decide +kernel
theorem dL_law_17 : decode cL_law 17 = .ok (.invokestatic 123, 3) := by decide +kernel
theorem dL_law_20 : decode cL_law 20 = .ok (.iconst 3, 1) := by decide +kernel
theorem dL_law_21 : decode cL_law 21 = .ok (.if_icmp .ne 34, 3) := by decide +kernel
theorem dL_law_24 : decode cL_law 24 = .ok (.aload_n 1, 1) := by decide +kernel
theorem dL_law_25 : decode cL_law 25 = .ok (.invokevirtual 127, 3) := by decide +kernel
theorem dL_law_28 : decode cL_law 28 = .ok (.ifCond .ne 27, 3) := by decide +kernel
theorem dL_law_31 : decode cL_law 31 = .ok (.aload_n 1, 1) := by decide +kernel
theorem dL_law_32 : decode cL_law 32 = .ok (.invokevirtual 130, 3) := by decide +kernel
theorem dL_law_35 : decode cL_law 35 = .ok (.iconst 2, 1) := by decide +kernel
theorem dL_law_36 : decode cL_law 36 = .ok (.if_icmp .ne 19, 3) := by decide +kernel
theorem dL_law_39 : decode cL_law 39 = .ok (.aload_n 1, 1) := by decide +kernel
theorem dL_law_40 : decode cL_law 40 = .ok (.invokevirtual 133, 3) := by decide +kernel
theorem dL_law_43 : decode cL_law 43 = .ok (.aload_n 0, 1) := by decide +kernel
theorem dL_law_44 : decode cL_law 44 = .ok (.iconst 0, 1) := by decide +kernel
theorem dL_law_45 : decode cL_law 45 = .ok (.invokestatic 33, 3) := by decide +kernel
theorem dL_law_48 : decode cL_law 48 = .ok (.sipush 1024, 3) := by decide +kernel
theorem dL_law_51 : decode cL_law 51 = .ok (.irem, 1) := by decide +kernel
theorem dL_law_52 : decode cL_law 52 = .ok (.if_icmp .eq 5, 3) := by decide +kernel
theorem dL_law_55 : decode cL_law 55 = .ok (.iconst 0, 1) := by decide +kernel
theorem dL_law_56 : decode cL_law 56 = .ok (.ireturn, 1) := by decide +kernel
theorem dL_law_57 : decode cL_law 57 = .ok (.new 136, 3) := by decide +kernel
theorem dL_law_60 : decode cL_law 60 = .ok (.dup, 1) := by decide +kernel
theorem dL_law_61 : decode cL_law 61 = .ok (.aload_n 0, 1) := by decide +kernel
theorem dL_law_62 : decode cL_law 62 = .ok (.invokespecial 138, 3) := by decide +kernel
theorem dL_law_65 : decode cL_law 65 = .ok (.astore_n 2, 1) := by decide +kernel
theorem dL_law_66 : decode cL_law 66 = .ok (.bipush 7, 2) := by decide +kernel
theorem dL_law_68 : decode cL_law 68 = .ok (.istore_n 3, 1) := by decide +kernel
theorem dL_law_69 : decode cL_law 69 = .ok (.iload_n 3, 1) := by decide +kernel
theorem dL_law_70 : decode cL_law 70 = .ok (.bipush 45, 2) := by decide +kernel
theorem dL_law_72 : decode cL_law 72 = .ok (.if_icmp .ge 66, 3) := by decide +kernel
theorem dL_law_75 : decode cL_law 75 = .ok (.aload_n 0, 1) := by decide +kernel
theorem dL_law_76 : decode cL_law 76 = .ok (.iload_n 3, 1) := by decide +kernel
theorem dL_law_77 : decode cL_law 77 = .ok (.invokestatic 33, 3) := by decide +kernel
theorem dL_law_80 : decode cL_law 80 = .ok (.istore 4, 2) := by decide +kernel
theorem dL_law_82 : decode cL_law 82 = .ok (.aload_n 2, 1) := by decide +kernel
theorem dL_law_83 : decode cL_law 83 = .ok (.iload 4, 2) := by decide +kernel
theorem dL_law_85 : decode cL_law 85 = .ok (.invokevirtual 141, 3) := by decide +kernel
theorem dL_law_88 : decode cL_law 88 = .ok (.istore 5, 2) := by decide +kernel
theorem dL_law_90 : decode cL_law 90 = .ok (.aload_n 1, 1) := by decide +kernel
theorem dL_law_91 : decode cL_law 91 = .ok (.iload 4, 2) := by decide +kernel
theorem dL_law_93 : decode cL_law 93 = .ok (.invokestatic 144, 3) := by decide +kernel
theorem dL_law_96 : decode cL_law 96 = .ok (.iload 5, 2) := by decide +kernel
theorem dL_law_98 : decode cL_law 98 = .ok (.if_icmp .ne 32, 3) := by decide +kernel
theorem dL_law_101 : decode cL_law 101 = .ok (.aload_n 2, 1) := by decide +kernel
theorem dL_law_102 : decode cL_law 102 = .ok (.aload_n 1, 1) := by decide +kernel
theorem dL_law_103 : decode cL_law 103 = .ok (.invokevirtual 147, 3) := by decide +kernel
theorem dL_law_106 : decode cL_law 106 = .ok (.ifCond .eq 24, 3) := by decide +kernel
theorem dL_law_109 : decode cL_law 109 = .ok (.aload_n 1, 1) := by decide +kernel
theorem dL_law_110 : decode cL_law 110 = .ok (.invokevirtual 151, 3) := by decide +kernel
theorem dL_law_113 : decode cL_law 113 = .ok (.ifCond .ne 17, 3) := by decide +kernel
theorem dL_law_116 : decode cL_law 116 = .ok (.aload_n 1, 1) := by decide +kernel
theorem dL_law_117 : decode cL_law 117 = .ok (.invokevirtual 154, 3) := by decide +kernel
theorem dL_law_120 : decode cL_law 120 = .ok (.ifCond .ne 10, 3) := by decide +kernel
theorem dL_law_123 : decode cL_law 123 = .ok (.aload_n 1, 1) := by decide +kernel
theorem dL_law_124 : decode cL_law 124 = .ok (.invokevirtual 157, 3) := by decide +kernel
theorem dL_law_127 : decode cL_law 127 = .ok (.ifCond .eq 5, 3) := by decide +kernel
theorem dL_law_130 : decode cL_law 130 = .ok (.iconst 0, 1) := by decide +kernel
theorem dL_law_131 : decode cL_law 131 = .ok (.ireturn, 1) := by decide +kernel
theorem dL_law_132 : decode cL_law 132 = .ok (.iinc 3 1, 3) := by decide +kernel
theorem dL_law_135 : decode cL_law 135 = .ok (.goto (-66), 3) := by decide +kernel
theorem dL_law_138 : decode cL_law 138 = .ok (.iconst 1, 1) := by decide +kernel
theorem dL_law_139 : decode cL_law 139 = .ok (.ireturn, 1) := by decide +kernel
end
section
/-! THE WALKING JUDGEMENT J: the machine at a pc, over data alone (the world's cells, the locals that matter, the stack), for any heap that holds them. -/
/-- what is fixed through a run: the classes' numbers and slots, the array classes' numbers, the addresses of the String constants and of their byte arrays -/
abbrev gT : Type := va_G × (Nat → ClassId) × (Nat → Nat) × (Nat → Nat)
abbrev gc (G : gT) : Nat → ClassId := G.2.1
/-- the array classes of the world: int, byte, boolean, State, int[] -/
abbrev tyl (G : gT) : List (ClassId × FieldType) := [(gc G 0, .int), (gc G 1, .byte), (gc G 2, .boolean), (gc G 3, .object "AlmanacOffice$State"), (gc G 4, .array .int)]
/-- the String constants by their places: exact strings over bytes; one constant of two classes is one object -/
def vS (adK adV : Nat → Nat) (A : Nat → Prop) (U : State) (H : Heap) : Prop :=
  ∀ i : Nat, i < 14 → va_O "java/lang/String" (adK i) A U H ∧ va_OF "java/lang/String" "coder" "B" (.int 0) (adK i) A U H ∧ va_OF "java/lang/String" "value" "[B" (.ref (adV i)) (adK i) A U H ∧ va_T .byte (adV i) (SKn.getD i 0) (fun j => .int ((SKb.getD i []).getD j 0)) A U H
theorem vS.moved {adK adV : Nat → Nat} {A : Nat → Prop} {u U : State} {H : Heap} (hvm : u.vm.Alike U.vm) (h : vS adK adV A u H) : vS adK adV A U H :=
  fun i hi => ⟨va_O.moved hvm (h i hi).1, va_OF.moved hvm (h i hi).2.1, va_OF.moved hvm (h i hi).2.2.1, va_T.moved hvm (h i hi).2.2.2⟩
theorem vS.kept {adK adV : Nat → Nat} {A : Nat → Prop} {U : State} {H H1 : Heap} (h : vS adK adV A U H) (hq : ∀ a : Nat, a < H.size → ¬ A a → H1[a]? = H[a]?) : vS adK adV A U H1 :=
  fun i hi => ⟨(h i hi).1.kept hq, (h i hi).2.1.kept hq, (h i hi).2.2.1.kept hq, (h i hi).2.2.2.kept hq⟩
theorem vS.narrow {adK adV : Nat → Nat} {A B : Nat → Prop} {U : State} {H : Heap} (h : vS adK adV A U H) (hAB : ∀ q, B q → A q) : vS adK adV B U H :=
  fun i hi => ⟨(h i hi).1.narrow hAB, (h i hi).2.1.narrow hAB, (h i hi).2.2.1.narrow hAB, (h i hi).2.2.2.narrow hAB⟩
/-- int[][] has been made; Integer's two tables of digits -/
def aoI (U : State) : Prop := (Cond.arrayOver (.array .int)).before #[] U = true
theorem aoI.moved {u U : State} (hvm : u.vm.Alike U.vm) (h : aoI u) : aoI U := by
  obtain ⟨comp, c, k, h1, h2, h3, h4, h5⟩ := arrayOverA_spec h
  obtain ⟨k', hk', he⟩ := hvm.2.2 _ _ h3
  have hi : (U.vm.classes.findIdx? fun (x : Class) => match x.kind with | .array component _ => component == comp | _ => false) = some c := by
    refine Eq.trans (va_idx_bare U.vm comp).symm ?_
    first | rw [hvm.bare_eq] | rw [← hvm.bare_eq]
    exact (va_idx_bare u.vm comp).trans h2
  have hkind : k'.kind = .array comp (.array .int) := by rw [he]; exact h4
  have f1 : U.vm.findClass (FieldType.array .int).toString = some comp := by rw [hvm.findClass]; exact h1
  have f2 : U.vm.findClass ("[" ++ (FieldType.array .int).toString) = some c := by rw [hvm.findClass]; exact h5
  unfold aoI Cond.before Cond.holds
  simp only [Cond.value]
  rw [f1, Option.bind_some]
  refine (congrArg (fun o : Option Nat => (o.bind (fun c => (U.vm.classes[c]?).map fun (k : Class) => match k.kind with | .array _ ty => decide (ty = FieldType.array .int) && decide (U.vm.findClass ("[" ++ (FieldType.array .int).toString) = some c) | _ => false) == some true)) hi).trans ?_
  simp [hk', hkind, f2]
def dgO (j : Nat) : Int32 := nI (48 + j % 10)
def dgT (j : Nat) : Int32 := nI (48 + j / 10)
/-- a static row of bytes of Integer, outside A -/
def xR (nm : String) (f : Nat → Int32) (A : Nat → Prop) (U : State) (H : Heap) : Prop := ∃ t : Nat, va_Z "java/lang/Integer" nm "[B" (.ref t) A U H ∧ va_T .byte t 100 (fun j => .int (f j)) A U H
theorem xR.moved {nm : String} {f : Nat → Int32} {A : Nat → Prop} {u U : State} {H : Heap} (hvm : u.vm.Alike U.vm) (h : xR nm f A u H) : xR nm f A U H := by
  obtain ⟨t, h1, h2⟩ := h
  exact ⟨t, va_Z.moved hvm h1, va_T.moved hvm h2⟩
theorem xR.kept {nm : String} {f : Nat → Int32} {A : Nat → Prop} {U : State} {H H1 : Heap} (h : xR nm f A U H) (hq : ∀ a : Nat, a < H.size → ¬ A a → H1[a]? = H[a]?) : xR nm f A U H1 := by
  obtain ⟨t, h1, h2⟩ := h
  exact ⟨t, h1.kept hq, h2.kept hq⟩
theorem xR.narrow {nm : String} {f : Nat → Int32} {A B : Nat → Prop} {U : State} {H : Heap} (h : xR nm f A U H) (hAB : ∀ q, B q → A q) : xR nm f B U H := by
  obtain ⟨t, h1, h2⟩ := h
  exact ⟨t, h1.narrow hAB, h2.narrow hAB⟩
/-- the script, told by the numbers behind the String constants' addresses: 14 its address, 15 its length, from 16 on its ints -/
def scX (g : Nat → Nat) (j : Nat) : Int32 := nI (g (16 + j))
def scT (g : Nat → Nat) (A : Nat → Prop) (U : State) (H : Heap) : Prop := va_T .int (g 14) (g 15) (fun j => .int (scX g j)) A U H
/-- what the law of this claim needs besides: State[] and int[][] have been made, the tables of digits, the script -/
def xF (g : Nat → Nat) (A : Nat → Prop) (U : State) (H : Heap) : Prop := va_AO "AlmanacOffice$State" U ∧ aoI U ∧ xR "DigitOnes" dgO A U H ∧ xR "DigitTens" dgT A U H ∧ scT g A U H
theorem xF.moved {g : Nat → Nat} {A : Nat → Prop} {u U : State} {H : Heap} (hvm : u.vm.Alike U.vm) (h : xF g A u H) : xF g A U H := ⟨va_AO.moved hvm h.1, h.2.1.moved hvm, h.2.2.1.moved hvm, h.2.2.2.1.moved hvm, va_T.moved hvm h.2.2.2.2⟩
theorem xF.kept {g : Nat → Nat} {A : Nat → Prop} {U : State} {H H1 : Heap} (h : xF g A U H) (hq : ∀ a : Nat, a < H.size → ¬ A a → H1[a]? = H[a]?) : xF g A U H1 := ⟨h.1, h.2.1, h.2.2.1.kept hq, h.2.2.2.1.kept hq, va_T.kept h.2.2.2.2 hq⟩
theorem xF.narrow {g : Nat → Nat} {A B : Nat → Prop} {U : State} {H : Heap} (h : xF g A U H) (hAB : ∀ q, B q → A q) : xF g B U H := ⟨h.1, h.2.1, h.2.2.1.narrow hAB, h.2.2.2.1.narrow hAB, va_T.narrow h.2.2.2.2 hAB⟩
/-- what a run may take for granted everywhere: links of nest mates, Throwable's statics, String's and Preconditions', the String constants; none of their cells lies in A -/
def xE (G : gT) (A : Nat → Prop) (U : State) : Prop := (∀ w ∈ NWL, va_Nw w U) ∧ xF G.2.2.1 A U U.heap ∧ vx_Zq Bundle.tN "UNASSIGNED_STACK" Bundle.steD A U U.heap ∧ vx_Zq Bundle.tN "SUPPRESSED_SENTINEL" Bundle.listD A U U.heap ∧
  va_Z "java/lang/String" "COMPACT_STRINGS" "Z" (.int 1) A U U.heap ∧ va_Zq "jdk/internal/util/Preconditions" "SIOOBE_FORMATTER" "Ljava/util/function/BiFunction;" A U U.heap ∧
  (∀ i : Nat, i < 14 → vk_R (SKo.getD i "") (SKi.getD i 0) (SKt.getD i "") (G.2.2.1 i) U) ∧ vS G.2.2.1 G.2.2.2 A U U.heap
theorem nwl_kind : ∀ w ∈ NWL, ∃ a i y h, w = .methodLinkNest a i y h := by
  intro w h
  simp only [NWL, List.mem_cons, List.not_mem_nil, or_false] at h
  rcases h with rfl | rfl | rfl | rfl | rfl | rfl | rfl | rfl | rfl | rfl | rfl | rfl | rfl | rfl | rfl | rfl | rfl | rfl | rfl | rfl | rfl | rfl | rfl | rfl | rfl <;> exact ⟨_, _, _, _, rfl⟩
theorem xE.step {G : gT} {A B : Nat → Prop} {s U : State} (h : xE G A s) (hW : s.WarmedH U.vm) (hq : ∀ a : Nat, a < s.heap.size → ¬ A a → U.heap[a]? = s.heap[a]?) (hAB : ∀ q, B q → A q) : xE G B U := by
  obtain ⟨h1, h2, h3, h4, h5, h6, h7, h8⟩ := h
  refine ⟨fun w hw => ?_, ((xF.moved hW.alike h2).kept hq).narrow hAB, ((vx_Zq.moved hW.alike h3).kept hq).narrow hAB, ((vx_Zq.moved hW.alike h4).kept hq).narrow hAB, ((va_Z.moved hW.alike h5).kept hq).narrow hAB, ((va_Zq.moved hW.alike h6).kept hq).narrow hAB, fun i hi => (h7 i hi).warm hW, ((vS.moved hW.alike h8).kept hq).narrow hAB⟩
  obtain ⟨a, i, y, hh, rfl⟩ := nwl_kind w hw
  exact va_Nw.warmM hW (h1 _ hw)
theorem xE.same {G : gT} {A : Nat → Prop} {s U : State} (h : xE G A s) (hv : s.vm = U.vm) (hh : U.heap = s.heap) : xE G A U := by
  obtain ⟨h1, h2, h3, h4, h5, h6, h7, h8⟩ := h
  have ha : s.vm.Alike U.vm := by rw [hv]; exact Vm.Alike.refl _
  refine ⟨fun w hw => ?_, by rw [hh]; exact xF.moved ha h2, by rw [hh]; exact vx_Zq.moved ha h3, by rw [hh]; exact vx_Zq.moved ha h4, by rw [hh]; exact va_Z.moved ha h5, by rw [hh]; exact va_Zq.moved ha h6, fun i hi => (h7 i hi).same hv.symm, by rw [hh]; exact vS.moved ha h8⟩
  obtain ⟨a, i, y, hh, rfl⟩ := nwl_kind w hw
  exact va_Nw.same rfl hv (h1 _ hw)
theorem xE.narrow {G : gT} {A B : Nat → Prop} {U : State} (h : xE G A U) (hAB : ∀ q, B q → A q) : xE G B U := by
  obtain ⟨h1, h2, h3, h4, h5, h6, h7, h8⟩ := h
  exact ⟨h1, h2.narrow hAB, h3.narrow hAB, h4.narrow hAB, h5.narrow hAB, h6.narrow hAB, h7, h8.narrow hAB⟩
def gP (G : gT) (ws : va_W) (sz : Nat) (U : State) : Prop := U.heap.size = sz ∧ va_P G.1 vwCl ws U.heap ∧ va_K G.1 vwCl (tyl G) U ∧ va_D (fun _ => True) ws ∧ xE G (va_A ws sz) U
def gB (G : gT) (ws : va_W) (A : Nat → Prop) (t : State) : Prop := va_P G.1 vwCl ws t.heap ∧ va_K G.1 vwCl (tyl G) t ∧ va_D A ws
theorem gP_blind (G : gT) (av : List Value) (ws : va_W) (sz : Nat) : FrameBlind (va_Pc av (gP G ws sz)) := fun a U g mk h => ⟨h.1, h.2.1, h.2.2.1, va_K.moved (u := U) (U := U.calling g mk a) (Vm.Alike.refl U.vm) h.2.2.2.1, h.2.2.2.2.1, h.2.2.2.2.2.same rfl rfl⟩
abbrev JX : Type := Program × Launch × Env × Room × State × MethodId × Array Value × List Frame × Method × Code × (Nat → Prop) × Heap × (State → Prop)
abbrev jp (x : JX) : Program := x.1
abbrev jl (x : JX) : Launch := x.2.1
abbrev je (x : JX) : Env := x.2.2.1
abbrev jR (x : JX) : Room := x.2.2.2.1
abbrev js (x : JX) : State := x.2.2.2.2.1
abbrev jm (x : JX) : MethodId := x.2.2.2.2.2.1
abbrev ja (x : JX) : Array Value := x.2.2.2.2.2.2.1
abbrev jb (x : JX) : List Frame := x.2.2.2.2.2.2.2.1
abbrev jt (x : JX) : Method := x.2.2.2.2.2.2.2.2.1
abbrev jc (x : JX) : Code := x.2.2.2.2.2.2.2.2.2.1
abbrev jA (x : JX) : Nat → Prop := x.2.2.2.2.2.2.2.2.2.2.1
abbrev jH (x : JX) : Heap := x.2.2.2.2.2.2.2.2.2.2.2.1
abbrev jQ (x : JX) : State → Prop := x.2.2.2.2.2.2.2.2.2.2.2.2
def J (x : JX) (G : gT) (ws : va_W) (k n : Nat) (lv : List (Nat × Value)) (st : List Value) (pc : Nat) : Prop :=
  ∀ (H : Heap) (locs : List Loc) (ls : Array Slot), va_P G.1 vwCl ws H → va_D (jA x) ws → va_S (jA x) (jH x) H locs → lv_has ls (jc x).maxLocals lv →
    W (jp x) (jl x) (je x) (jR x) (js x) (jm x) (ja x) (jb x) (jt x) (jc x) H locs k n (jQ x) (F0 (jm x) pc ls st)
def JC (x : JX) (G : gT) (R : Room) (cc : ByteArray) (w0 : Cond) (own : String) (nL : Nat) : Prop :=
  (jp x).tables.exec = Jvm.exec ∧ (jc x).code = cc ∧ (jc x).maxLocals = nL ∧ (js x).vm.findClass own = some (jm x).cls ∧ (∀ w ∈ w0 :: GW, w.before (ja x) (js x) = true) ∧
  va_K G.1 vwCl (tyl G) (js x) ∧ (∀ q : Nat, (jH x).size ≤ q → jA x q) ∧ jR x = R ∧ jH x = (js x).heap ∧ xE G (jA x) (js x)
section JJ
variable {x : JX} {G : gT} {R : Room} {cc : ByteArray} {w0 : Cond} {own : String} {nL : Nat} {ws : va_W} {k n : Nat} {lv : List (Nat × Value)} {st : List Value} {pc : Nat}
theorem J_aload_n (hC : JC x G R cc w0 own nL) {f : Fin 4} {i a : Nat} (hd : decode cc pc = .ok (.aload_n f, 1)) (j : Nat) (hi : (f : Nat) = i) (hl : lv[j]? = some (i, .ref a)) (kk : J x G ws k n lv (.ref a :: st) (pc + 1)) : J x G ws k n lv st pc :=
  fun H locs ls hP hD hS hL => lv_aload_n hC.1 hC.2.1 hd hi (lv_at hL j hl) (kk H locs ls hP hD hS hL)
theorem J_aload (hC : JC x G R cc w0 own nL) {i a : Nat} (hd : decode cc pc = .ok (.aload i, 2)) (j : Nat) (hl : lv[j]? = some (i, .ref a)) (kk : J x G ws k n lv (.ref a :: st) (pc + 2)) : J x G ws k n lv st pc :=
  fun H locs ls hP hD hS hL => lv_aload hC.1 hC.2.1 hd (lv_at hL j hl) (kk H locs ls hP hD hS hL)
theorem J_iload_n (hC : JC x G R cc w0 own nL) {f : Fin 4} {i : Nat} {v : Int32} (hd : decode cc pc = .ok (.iload_n f, 1)) (j : Nat) (hi : (f : Nat) = i) (hl : lv[j]? = some (i, .int v)) (kk : J x G ws k n lv (.int v :: st) (pc + 1)) : J x G ws k n lv st pc :=
  fun H locs ls hP hD hS hL => lv_iload_n hC.1 hC.2.1 hd hi (lv_at hL j hl) (kk H locs ls hP hD hS hL)
theorem J_iload (hC : JC x G R cc w0 own nL) {i : Nat} {v : Int32} (hd : decode cc pc = .ok (.iload i, 2)) (j : Nat) (hl : lv[j]? = some (i, .int v)) (kk : J x G ws k n lv (.int v :: st) (pc + 2)) : J x G ws k n lv st pc :=
  fun H locs ls hP hD hS hL => lv_iload hC.1 hC.2.1 hd (lv_at hL j hl) (kk H locs ls hP hD hS hL)
theorem J_dload (hC : JC x G R cc w0 own nL) {i : Nat} {v : UInt64} (hd : decode cc pc = .ok (.dload i, 2)) (j : Nat) (hl : lv[j]? = some (i, .double v)) (kk : J x G ws k n lv (.double v :: st) (pc + 2)) : J x G ws k n lv st pc :=
  fun H locs ls hP hD hS hL => lv_dload hC.1 hC.2.1 hd (lv_at hL j hl) (kk H locs ls hP hD hS hL)
theorem J_iconst (hC : JC x G R cc w0 own nL) {c : Int} {v : Int32} (hd : decode cc pc = .ok (.iconst c, 1)) (hv : Int32.ofInt c = v) (kk : J x G ws k n lv (.int v :: st) (pc + 1)) : J x G ws k n lv st pc :=
  fun H locs ls hP hD hS hL => lv_iconst hC.1 hC.2.1 hd hv (kk H locs ls hP hD hS hL)
theorem J_bipush (hC : JC x G R cc w0 own nL) {c : Int} {v : Int32} (hd : decode cc pc = .ok (.bipush c, 2)) (hv : (Int8.ofInt c).toInt32 = v) (kk : J x G ws k n lv (.int v :: st) (pc + 2)) : J x G ws k n lv st pc :=
  fun H locs ls hP hD hS hL => lv_bipush hC.1 hC.2.1 hd hv (kk H locs ls hP hD hS hL)
theorem J_sipush (hC : JC x G R cc w0 own nL) {c : Int} {v : Int32} (hd : decode cc pc = .ok (.sipush c, 3)) (hv : (Int16.ofInt c).toInt32 = v) (kk : J x G ws k n lv (.int v :: st) (pc + 3)) : J x G ws k n lv st pc :=
  fun H locs ls hP hD hS hL => lv_sipush hC.1 hC.2.1 hd hv (kk H locs ls hP hD hS hL)
theorem J_ldc (hC : JC x G R cc w0 own nL) {i : Nat} {v : Int32} (hd : decode cc pc = .ok (.ldc i, 2)) (hw : Cond.constant own i v ∈ GW) (kk : J x G ws k n lv (.int v :: st) (pc + 2)) : J x G ws k n lv st pc :=
  fun H locs ls hP hD hS hL => lv_ldc hC.1 hC.2.1 hC.2.2.2.1 (hC.2.2.2.2.1 _ (List.mem_cons_of_mem _ hw)) hd (kk H locs ls hP hD hS hL)
theorem J_istore_n (hC : JC x G R cc w0 own nL) {f : Fin 4} {i : Nat} {v : Int32} (lv' : List (Nat × Value)) (hd : decode cc pc = .ok (.istore_n f, 1)) (hi : (f : Nat) = i) (hn : i < nL) (hl : (i, Value.int v) :: lv.filter (fun q => !(q.1 == i) && !(q.1 + 1 == i && q.2.category == 2)) = lv') (kk : J x G ws k n lv' st (pc + 1)) : J x G ws k n lv (.int v :: st) pc :=
  fun H locs ls hP hD hS hL => lv_istore_n hC.1 hC.2.1 hd hi hL (by rw [hC.2.2.1]; exact hn) hl (fun ls' hL' => kk H locs ls' hP hD hS hL')
theorem J_istore (hC : JC x G R cc w0 own nL) {i : Nat} {v : Int32} (lv' : List (Nat × Value)) (hd : decode cc pc = .ok (.istore i, 2)) (hn : i < nL) (hl : (i, Value.int v) :: lv.filter (fun q => !(q.1 == i) && !(q.1 + 1 == i && q.2.category == 2)) = lv') (kk : J x G ws k n lv' st (pc + 2)) : J x G ws k n lv (.int v :: st) pc :=
  fun H locs ls hP hD hS hL => lv_istore hC.1 hC.2.1 hd hL (by rw [hC.2.2.1]; exact hn) hl (fun ls' hL' => kk H locs ls' hP hD hS hL')
theorem J_astore_n (hC : JC x G R cc w0 own nL) {f : Fin 4} {i a : Nat} (lv' : List (Nat × Value)) (hd : decode cc pc = .ok (.astore_n f, 1)) (hi : (f : Nat) = i) (hn : i < nL) (hl : (i, Value.ref a) :: lv.filter (fun q => !(q.1 == i) && !(q.1 + 1 == i && q.2.category == 2)) = lv') (kk : J x G ws k n lv' st (pc + 1)) : J x G ws k n lv (.ref a :: st) pc :=
  fun H locs ls hP hD hS hL => lv_astore_n hC.1 hC.2.1 hd hi hL (by rw [hC.2.2.1]; exact hn) hl (fun ls' hL' => kk H locs ls' hP hD hS hL')
theorem J_astore (hC : JC x G R cc w0 own nL) {i a : Nat} (lv' : List (Nat × Value)) (hd : decode cc pc = .ok (.astore i, 2)) (hn : i < nL) (hl : (i, Value.ref a) :: lv.filter (fun q => !(q.1 == i) && !(q.1 + 1 == i && q.2.category == 2)) = lv') (kk : J x G ws k n lv' st (pc + 2)) : J x G ws k n lv (.ref a :: st) pc :=
  fun H locs ls hP hD hS hL => lv_astore hC.1 hC.2.1 hd hL (by rw [hC.2.2.1]; exact hn) hl (fun ls' hL' => kk H locs ls' hP hD hS hL')
theorem J_dstore (hC : JC x G R cc w0 own nL) {i : Nat} {v : UInt64} (lv' : List (Nat × Value)) (hd : decode cc pc = .ok (.dstore i, 2)) (hn : i + 1 < nL) (hl : (i, Value.double v) :: lv.filter (fun q => !(q.1 == i) && (!(q.1 == i + 1) && !(q.1 + 1 == i && q.2.category == 2))) = lv') (kk : J x G ws k n lv' st (pc + 2)) : J x G ws k n lv (.double v :: st) pc :=
  fun H locs ls hP hD hS hL => lv_dstore hC.1 hC.2.1 hd hL (by rw [hC.2.2.1]; exact hn) hl (fun ls' hL' => kk H locs ls' hP hD hS hL')
theorem J_iinc (hC : JC x G R cc w0 own nL) {i : Nat} {d : Int} {v w : Int32} (lv' : List (Nat × Value)) (hd : decode cc pc = .ok (.iinc i d, 3)) (j : Nat) (hj : lv[j]? = some (i, .int v)) (hv : v + Int32.ofInt d = w) (hn : i < nL) (hl : (i, Value.int w) :: lv.filter (fun q => !(q.1 == i) && !(q.1 + 1 == i && q.2.category == 2)) = lv') (kk : J x G ws k n lv' st (pc + 3)) : J x G ws k n lv st pc :=
  fun H locs ls hP hD hS hL => lv_iinc hC.1 hC.2.1 hd hL hj hv (by rw [hC.2.2.1]; exact hn) hl (fun ls' hL' => kk H locs ls' hP hD hS hL')
theorem J_dup (hC : JC x G R cc w0 own nL) {v : Value} (hd : decode cc pc = .ok (.dup, 1)) (hv : v.category = 1) (kk : J x G ws k n lv (v :: v :: st) (pc + 1)) : J x G ws k n lv (v :: st) pc :=
  fun H locs ls hP hD hS hL => lv_dup hC.1 hC.2.1 hd hv (kk H locs ls hP hD hS hL)
theorem J_dup2 (hC : JC x G R cc w0 own nL) {v w : Value} (hd : decode cc pc = .ok (.dup2, 1)) (hv : v.category = 1) (hw : w.category = 1) (kk : J x G ws k n lv (v :: w :: v :: w :: st) (pc + 1)) : J x G ws k n lv (v :: w :: st) pc :=
  fun H locs ls hP hD hS hL => lv_dup2_11 hC.1 hC.2.1 hd (by assumption) (by assumption) (kk H locs ls hP hD hS hL)
theorem J_pop (hC : JC x G R cc w0 own nL) {v : Value} (hd : decode cc pc = .ok (.pop, 1)) (hv : v.category = 1) (kk : J x G ws k n lv st (pc + 1)) : J x G ws k n lv (v :: st) pc :=
  fun H locs ls hP hD hS hL => lv_pop hC.1 hC.2.1 hd hv (kk H locs ls hP hD hS hL)
theorem J_iadd (hC : JC x G R cc w0 own nL) {a b v : Int32} (hd : decode cc pc = .ok (.iadd, 1)) (hv : a + b = v) (kk : J x G ws k n lv (.int v :: st) (pc + 1)) : J x G ws k n lv (.int b :: .int a :: st) pc := by
  subst hv
  exact fun H locs ls hP hD hS hL => lv_iadd hC.1 hC.2.1 hd (kk H locs ls hP hD hS hL)
theorem J_isub (hC : JC x G R cc w0 own nL) {a b v : Int32} (hd : decode cc pc = .ok (.isub, 1)) (hv : a - b = v) (kk : J x G ws k n lv (.int v :: st) (pc + 1)) : J x G ws k n lv (.int b :: .int a :: st) pc := by
  subst hv
  exact fun H locs ls hP hD hS hL => lv_isub hC.1 hC.2.1 hd (kk H locs ls hP hD hS hL)
theorem J_imul (hC : JC x G R cc w0 own nL) {a b v : Int32} (hd : decode cc pc = .ok (.imul, 1)) (hv : a * b = v) (kk : J x G ws k n lv (.int v :: st) (pc + 1)) : J x G ws k n lv (.int b :: .int a :: st) pc := by
  subst hv
  exact fun H locs ls hP hD hS hL => lv_imul hC.1 hC.2.1 hd (kk H locs ls hP hD hS hL)
theorem J_idiv (hC : JC x G R cc w0 own nL) {a b v : Int32} (hd : decode cc pc = .ok (.idiv, 1)) (hne : ¬ b = 0) (hv : a / b = v) (kk : J x G ws k n lv (.int v :: st) (pc + 1)) : J x G ws k n lv (.int b :: .int a :: st) pc := by
  subst hv
  exact fun H locs ls hP hD hS hL => lv_idiv hC.1 hC.2.1 hd hne (kk H locs ls hP hD hS hL)
theorem J_irem (hC : JC x G R cc w0 own nL) {a b v : Int32} (hd : decode cc pc = .ok (.irem, 1)) (hne : ¬ b = 0) (hv : a - a / b * b = v) (kk : J x G ws k n lv (.int v :: st) (pc + 1)) : J x G ws k n lv (.int b :: .int a :: st) pc := by
  subst hv
  exact fun H locs ls hP hD hS hL => lv_irem hC.1 hC.2.1 hd hne (kk H locs ls hP hD hS hL)
theorem J_iand (hC : JC x G R cc w0 own nL) {a b v : Int32} (hd : decode cc pc = .ok (.iand, 1)) (hv : a &&& b = v) (kk : J x G ws k n lv (.int v :: st) (pc + 1)) : J x G ws k n lv (.int b :: .int a :: st) pc := by
  subst hv
  exact fun H locs ls hP hD hS hL => lv_iand hC.1 hC.2.1 hd (kk H locs ls hP hD hS hL)
theorem J_ior (hC : JC x G R cc w0 own nL) {a b v : Int32} (hd : decode cc pc = .ok (.ior, 1)) (hv : a ||| b = v) (kk : J x G ws k n lv (.int v :: st) (pc + 1)) : J x G ws k n lv (.int b :: .int a :: st) pc := by
  subst hv
  exact fun H locs ls hP hD hS hL => lv_ior hC.1 hC.2.1 hd (kk H locs ls hP hD hS hL)
theorem J_ishl (hC : JC x G R cc w0 own nL) {a b v : Int32} (hd : decode cc pc = .ok (.ishl, 1)) (hv : a <<< (b &&& 31) = v) (kk : J x G ws k n lv (.int v :: st) (pc + 1)) : J x G ws k n lv (.int b :: .int a :: st) pc := by
  subst hv
  exact fun H locs ls hP hD hS hL => lv_ishl hC.1 hC.2.1 hd (kk H locs ls hP hD hS hL)
theorem J_ishr (hC : JC x G R cc w0 own nL) {a b v : Int32} (hd : decode cc pc = .ok (.ishr, 1)) (hv : a >>> (b &&& 31) = v) (kk : J x G ws k n lv (.int v :: st) (pc + 1)) : J x G ws k n lv (.int b :: .int a :: st) pc := by
  subst hv
  exact fun H locs ls hP hD hS hL => lv_ishr hC.1 hC.2.1 hd (kk H locs ls hP hD hS hL)
theorem J_iushr (hC : JC x G R cc w0 own nL) {a b v : Int32} (hd : decode cc pc = .ok (.iushr, 1)) (hv : (a.toUInt32 >>> (b.toUInt32 &&& Int32.toUInt32 31)).toInt32 = v) (kk : J x G ws k n lv (.int v :: st) (pc + 1)) : J x G ws k n lv (.int b :: .int a :: st) pc :=
  fun H locs ls hP hD hS hL => lv_iushr hC.1 hC.2.1 hd hv (kk H locs ls hP hD hS hL)
theorem J_i2b (hC : JC x G R cc w0 own nL) {a v : Int32} (hd : decode cc pc = .ok (.i2b, 1)) (hv : a.toInt8.toInt32 = v) (kk : J x G ws k n lv (.int v :: st) (pc + 1)) : J x G ws k n lv (.int a :: st) pc :=
  fun H locs ls hP hD hS hL => lv_i2b hC.1 hC.2.1 hd hv (kk H locs ls hP hD hS hL)
theorem J_i2l (hC : JC x G R cc w0 own nL) {a : Int32} {v : Int64} (hd : decode cc pc = .ok (.i2l, 1)) (hv : a.toInt64 = v) (kk : J x G ws k n lv (.long v :: st) (pc + 1)) : J x G ws k n lv (.int a :: st) pc :=
  fun H locs ls hP hD hS hL => lv_i2l hC.1 hC.2.1 hd hv (kk H locs ls hP hD hS hL)
theorem J_lconst (hC : JC x G R cc w0 own nL) {c : Fin 2} {v : Int64} (hd : decode cc pc = .ok (.lconst c, 1)) (hv : Int64.ofNat (c : Nat) = v) (kk : J x G ws k n lv (.long v :: st) (pc + 1)) : J x G ws k n lv st pc :=
  fun H locs ls hP hD hS hL => lv_lconst hC.1 hC.2.1 hd hv (kk H locs ls hP hD hS hL)
theorem J_goto (hC : JC x G R cc w0 own nL) {off : Int} {tgt : Nat} (hd : decode cc pc = .ok (.goto off, 3)) (ht : (pc : Int) + off = (tgt : Int)) (kk : J x G ws k n lv st tgt) : J x G ws k n lv st pc :=
  fun H locs ls hP hD hS hL => lv_goto hC.1 hC.2.1 hd ht (kk H locs ls hP hD hS hL)
theorem J_if_eq (hC : JC x G R cc w0 own nL) {a : Int32} {off : Int} {tgt : Nat} (hd : decode cc pc = .ok (.ifCond .eq off, 3)) (ht : (pc : Int) + off = (tgt : Int)) (kt : a = 0 → J x G ws k n lv st tgt) (kf : ¬ a = 0 → J x G ws k n lv st (pc + 3)) : J x G ws k n lv (.int a :: st) pc :=
  fun H locs ls hP hD hS hL => lv_if_eq hC.1 hC.2.1 hd ht (fun c => kt c H locs ls hP hD hS hL) (fun c => kf c H locs ls hP hD hS hL)
theorem J_if_ne (hC : JC x G R cc w0 own nL) {a : Int32} {off : Int} {tgt : Nat} (hd : decode cc pc = .ok (.ifCond .ne off, 3)) (ht : (pc : Int) + off = (tgt : Int)) (kt : ¬ a = 0 → J x G ws k n lv st tgt) (kf : a = 0 → J x G ws k n lv st (pc + 3)) : J x G ws k n lv (.int a :: st) pc :=
  fun H locs ls hP hD hS hL => lv_if_ne hC.1 hC.2.1 hd ht (fun c => kt c H locs ls hP hD hS hL) (fun c => kf c H locs ls hP hD hS hL)
theorem J_if_lt (hC : JC x G R cc w0 own nL) {a : Int32} {off : Int} {tgt : Nat} (hd : decode cc pc = .ok (.ifCond .lt off, 3)) (ht : (pc : Int) + off = (tgt : Int)) (kt : a < 0 → J x G ws k n lv st tgt) (kf : ¬ a < 0 → J x G ws k n lv st (pc + 3)) : J x G ws k n lv (.int a :: st) pc :=
  fun H locs ls hP hD hS hL => lv_if_lt hC.1 hC.2.1 hd ht (fun c => kt c H locs ls hP hD hS hL) (fun c => kf c H locs ls hP hD hS hL)
theorem J_if_ge (hC : JC x G R cc w0 own nL) {a : Int32} {off : Int} {tgt : Nat} (hd : decode cc pc = .ok (.ifCond .ge off, 3)) (ht : (pc : Int) + off = (tgt : Int)) (kt : 0 ≤ a → J x G ws k n lv st tgt) (kf : ¬ 0 ≤ a → J x G ws k n lv st (pc + 3)) : J x G ws k n lv (.int a :: st) pc :=
  fun H locs ls hP hD hS hL => lv_if_ge hC.1 hC.2.1 hd ht (fun c => kt c H locs ls hP hD hS hL) (fun c => kf c H locs ls hP hD hS hL)
theorem J_if_gt (hC : JC x G R cc w0 own nL) {a : Int32} {off : Int} {tgt : Nat} (hd : decode cc pc = .ok (.ifCond .gt off, 3)) (ht : (pc : Int) + off = (tgt : Int)) (kt : 0 < a → J x G ws k n lv st tgt) (kf : ¬ 0 < a → J x G ws k n lv st (pc + 3)) : J x G ws k n lv (.int a :: st) pc :=
  fun H locs ls hP hD hS hL => lv_if_gt hC.1 hC.2.1 hd ht (fun c => kt c H locs ls hP hD hS hL) (fun c => kf c H locs ls hP hD hS hL)
theorem J_if_le (hC : JC x G R cc w0 own nL) {a : Int32} {off : Int} {tgt : Nat} (hd : decode cc pc = .ok (.ifCond .le off, 3)) (ht : (pc : Int) + off = (tgt : Int)) (kt : a ≤ 0 → J x G ws k n lv st tgt) (kf : ¬ a ≤ 0 → J x G ws k n lv st (pc + 3)) : J x G ws k n lv (.int a :: st) pc :=
  fun H locs ls hP hD hS hL => lv_if_le hC.1 hC.2.1 hd ht (fun c => kt c H locs ls hP hD hS hL) (fun c => kf c H locs ls hP hD hS hL)
theorem J_ic_eq (hC : JC x G R cc w0 own nL) {a b : Int32} {off : Int} {tgt : Nat} (hd : decode cc pc = .ok (.if_icmp .eq off, 3)) (ht : (pc : Int) + off = (tgt : Int)) (kt : a = b → J x G ws k n lv st tgt) (kf : ¬ a = b → J x G ws k n lv st (pc + 3)) : J x G ws k n lv (.int b :: .int a :: st) pc :=
  fun H locs ls hP hD hS hL => lv_icmp_eq hC.1 hC.2.1 hd ht (fun c => kt c H locs ls hP hD hS hL) (fun c => kf c H locs ls hP hD hS hL)
theorem J_ic_ne (hC : JC x G R cc w0 own nL) {a b : Int32} {off : Int} {tgt : Nat} (hd : decode cc pc = .ok (.if_icmp .ne off, 3)) (ht : (pc : Int) + off = (tgt : Int)) (kt : ¬ a = b → J x G ws k n lv st tgt) (kf : a = b → J x G ws k n lv st (pc + 3)) : J x G ws k n lv (.int b :: .int a :: st) pc :=
  fun H locs ls hP hD hS hL => lv_icmp_ne hC.1 hC.2.1 hd ht (fun c => kt c H locs ls hP hD hS hL) (fun c => kf c H locs ls hP hD hS hL)
theorem J_ic_lt (hC : JC x G R cc w0 own nL) {a b : Int32} {off : Int} {tgt : Nat} (hd : decode cc pc = .ok (.if_icmp .lt off, 3)) (ht : (pc : Int) + off = (tgt : Int)) (kt : a < b → J x G ws k n lv st tgt) (kf : ¬ a < b → J x G ws k n lv st (pc + 3)) : J x G ws k n lv (.int b :: .int a :: st) pc :=
  fun H locs ls hP hD hS hL => lv_icmp_lt hC.1 hC.2.1 hd ht (fun c => kt c H locs ls hP hD hS hL) (fun c => kf c H locs ls hP hD hS hL)
theorem J_ic_ge (hC : JC x G R cc w0 own nL) {a b : Int32} {off : Int} {tgt : Nat} (hd : decode cc pc = .ok (.if_icmp .ge off, 3)) (ht : (pc : Int) + off = (tgt : Int)) (kt : b ≤ a → J x G ws k n lv st tgt) (kf : ¬ b ≤ a → J x G ws k n lv st (pc + 3)) : J x G ws k n lv (.int b :: .int a :: st) pc :=
  fun H locs ls hP hD hS hL => lv_icmp_ge hC.1 hC.2.1 hd ht (fun c => kt c H locs ls hP hD hS hL) (fun c => kf c H locs ls hP hD hS hL)
theorem J_ic_gt (hC : JC x G R cc w0 own nL) {a b : Int32} {off : Int} {tgt : Nat} (hd : decode cc pc = .ok (.if_icmp .gt off, 3)) (ht : (pc : Int) + off = (tgt : Int)) (kt : b < a → J x G ws k n lv st tgt) (kf : ¬ b < a → J x G ws k n lv st (pc + 3)) : J x G ws k n lv (.int b :: .int a :: st) pc :=
  fun H locs ls hP hD hS hL => lv_icmp_gt hC.1 hC.2.1 hd ht (fun c => kt c H locs ls hP hD hS hL) (fun c => kf c H locs ls hP hD hS hL)
theorem J_ic_le (hC : JC x G R cc w0 own nL) {a b : Int32} {off : Int} {tgt : Nat} (hd : decode cc pc = .ok (.if_icmp .le off, 3)) (ht : (pc : Int) + off = (tgt : Int)) (kt : a ≤ b → J x G ws k n lv st tgt) (kf : ¬ a ≤ b → J x G ws k n lv st (pc + 3)) : J x G ws k n lv (.int b :: .int a :: st) pc :=
  fun H locs ls hP hD hS hL => lv_icmp_le hC.1 hC.2.1 hd ht (fun c => kt c H locs ls hP hD hS hL) (fun c => kf c H locs ls hP hD hS hL)
-- comparisons of known numbers
theorem nI_lt' {a b : Nat} (ha : a < 2 ^ 31) (hb : b < 2 ^ 31) : nI a < nI b ↔ a < b := nI_ltI ha hb
theorem J_ic_ltN (hC : JC x G R cc w0 own nL) {a b : Nat} {off : Int} {tgt : Nat} (hd : decode cc pc = .ok (.if_icmp .lt off, 3)) (ht : (pc : Int) + off = (tgt : Int)) (ha : a < 2 ^ 31) (hb : b < 2 ^ 31) (kt : a < b → J x G ws k n lv st tgt) (kf : b ≤ a → J x G ws k n lv st (pc + 3)) : J x G ws k n lv (.int (nI b) :: .int (nI a) :: st) pc :=
  J_ic_lt hC hd ht (fun c => kt ((nI_ltI ha hb).mp c)) (fun c => kf (Nat.le_of_not_lt fun h => c ((nI_ltI ha hb).mpr h)))
theorem J_ic_geN (hC : JC x G R cc w0 own nL) {a b : Nat} {off : Int} {tgt : Nat} (hd : decode cc pc = .ok (.if_icmp .ge off, 3)) (ht : (pc : Int) + off = (tgt : Int)) (ha : a < 2 ^ 31) (hb : b < 2 ^ 31) (kt : b ≤ a → J x G ws k n lv st tgt) (kf : a < b → J x G ws k n lv st (pc + 3)) : J x G ws k n lv (.int (nI b) :: .int (nI a) :: st) pc :=
  J_ic_ge hC hd ht (fun c => kt ((nI_leI hb ha).mp c)) (fun c => kf (Nat.lt_of_not_le fun h => c ((nI_leI hb ha).mpr h)))
theorem J_ic_gtN (hC : JC x G R cc w0 own nL) {a b : Nat} {off : Int} {tgt : Nat} (hd : decode cc pc = .ok (.if_icmp .gt off, 3)) (ht : (pc : Int) + off = (tgt : Int)) (ha : a < 2 ^ 31) (hb : b < 2 ^ 31) (kt : b < a → J x G ws k n lv st tgt) (kf : a ≤ b → J x G ws k n lv st (pc + 3)) : J x G ws k n lv (.int (nI b) :: .int (nI a) :: st) pc :=
  J_ic_gt hC hd ht (fun c => kt ((nI_ltI hb ha).mp c)) (fun c => kf (Nat.le_of_not_lt fun h => c ((nI_ltI hb ha).mpr h)))
theorem J_ic_leN (hC : JC x G R cc w0 own nL) {a b : Nat} {off : Int} {tgt : Nat} (hd : decode cc pc = .ok (.if_icmp .le off, 3)) (ht : (pc : Int) + off = (tgt : Int)) (ha : a < 2 ^ 31) (hb : b < 2 ^ 31) (kt : a ≤ b → J x G ws k n lv st tgt) (kf : b < a → J x G ws k n lv st (pc + 3)) : J x G ws k n lv (.int (nI b) :: .int (nI a) :: st) pc :=
  J_ic_le hC hd ht (fun c => kt ((nI_leI ha hb).mp c)) (fun c => kf (Nat.lt_of_not_le fun h => c ((nI_leI ha hb).mpr h)))
theorem J_ic_eqN (hC : JC x G R cc w0 own nL) {a b : Nat} {off : Int} {tgt : Nat} (hd : decode cc pc = .ok (.if_icmp .eq off, 3)) (ht : (pc : Int) + off = (tgt : Int)) (ha : a < 2 ^ 31) (hb : b < 2 ^ 31) (kt : a = b → J x G ws k n lv st tgt) (kf : ¬ a = b → J x G ws k n lv st (pc + 3)) : J x G ws k n lv (.int (nI b) :: .int (nI a) :: st) pc :=
  J_ic_eq hC hd ht (fun c => kt ((nI_eq ha hb).mp c)) (fun c => kf (fun h => c ((nI_eq ha hb).mpr h)))
theorem J_ic_neN (hC : JC x G R cc w0 own nL) {a b : Nat} {off : Int} {tgt : Nat} (hd : decode cc pc = .ok (.if_icmp .ne off, 3)) (ht : (pc : Int) + off = (tgt : Int)) (ha : a < 2 ^ 31) (hb : b < 2 ^ 31) (kt : ¬ a = b → J x G ws k n lv st tgt) (kf : a = b → J x G ws k n lv st (pc + 3)) : J x G ws k n lv (.int (nI b) :: .int (nI a) :: st) pc :=
  J_ic_ne hC hd ht (fun c => kt (fun h => c ((nI_eq ha hb).mpr h))) (fun c => kf ((nI_eq ha hb).mp c))
theorem J_if_eqN (hC : JC x G R cc w0 own nL) {a : Nat} {off : Int} {tgt : Nat} (hd : decode cc pc = .ok (.ifCond .eq off, 3)) (ht : (pc : Int) + off = (tgt : Int)) (ha : a < 2 ^ 31) (kt : a = 0 → J x G ws k n lv st tgt) (kf : 0 < a → J x G ws k n lv st (pc + 3)) : J x G ws k n lv (.int (nI a) :: st) pc :=
  J_if_eq hC hd ht (fun c => kt ((nI_eq ha (b := 0) (by omega)).mp c)) (fun c => kf (Nat.pos_of_ne_zero fun h => c ((nI_eq ha (b := 0) (by omega)).mpr h)))
theorem J_if_neN (hC : JC x G R cc w0 own nL) {a : Nat} {off : Int} {tgt : Nat} (hd : decode cc pc = .ok (.ifCond .ne off, 3)) (ht : (pc : Int) + off = (tgt : Int)) (ha : a < 2 ^ 31) (kt : 0 < a → J x G ws k n lv st tgt) (kf : a = 0 → J x G ws k n lv st (pc + 3)) : J x G ws k n lv (.int (nI a) :: st) pc :=
  J_if_ne hC hd ht (fun c => kt (Nat.pos_of_ne_zero fun h => c ((nI_eq ha (b := 0) (by omega)).mpr h))) (fun c => kf ((nI_eq ha (b := 0) (by omega)).mp c))
theorem J_if_leN (hC : JC x G R cc w0 own nL) {a : Nat} {off : Int} {tgt : Nat} (hd : decode cc pc = .ok (.ifCond .le off, 3)) (ht : (pc : Int) + off = (tgt : Int)) (ha : a < 2 ^ 31) (kt : a = 0 → J x G ws k n lv st tgt) (kf : 0 < a → J x G ws k n lv st (pc + 3)) : J x G ws k n lv (.int (nI a) :: st) pc :=
  J_if_le hC hd ht (fun c => kt (Nat.le_zero.mp ((nI_leI ha (b := 0) (by omega)).mp c))) (fun c => kf (Nat.pos_of_ne_zero fun h => c ((nI_leI ha (b := 0) (by omega)).mpr (Nat.le_of_eq h))))
theorem J_if_ltN (hC : JC x G R cc w0 own nL) {a : Nat} {off : Int} {tgt : Nat} (hd : decode cc pc = .ok (.ifCond .lt off, 3)) (ht : (pc : Int) + off = (tgt : Int)) (ha : a < 2 ^ 31) (kf : J x G ws k n lv st (pc + 3)) : J x G ws k n lv (.int (nI a) :: st) pc :=
  J_if_lt hC hd ht (fun c => absurd c (nI_pos ha)) (fun _ => kf)
theorem J_if_geN (hC : JC x G R cc w0 own nL) {a : Nat} {off : Int} {tgt : Nat} (hd : decode cc pc = .ok (.ifCond .ge off, 3)) (ht : (pc : Int) + off = (tgt : Int)) (ha : a < 2 ^ 31) (kt : J x G ws k n lv st tgt) : J x G ws k n lv (.int (nI a) :: st) pc :=
  J_if_ge hC hd ht (fun _ => kt) (fun c => absurd (nI_pos' ha) c)
theorem J_if_gtN (hC : JC x G R cc w0 own nL) {a : Nat} {off : Int} {tgt : Nat} (hd : decode cc pc = .ok (.ifCond .gt off, 3)) (ht : (pc : Int) + off = (tgt : Int)) (ha : a < 2 ^ 31) (kt : 0 < a → J x G ws k n lv st tgt) (kf : a = 0 → J x G ws k n lv st (pc + 3)) : J x G ws k n lv (.int (nI a) :: st) pc :=
  J_if_gt hC hd ht (fun c => kt ((nI_ltI (a := 0) (by omega) ha).mp c)) (fun c => kf (Nat.eq_zero_of_not_pos fun h => c ((nI_ltI (a := 0) (by omega) ha).mpr h)))
end JJ
section JM
variable {x : JX} {G : gT} {R : Room} {cc : ByteArray} {w0 : Cond} {own : String} {nL : Nat} {ws : va_W} {k n : Nat} {lv : List (Nat × Value)} {st : List Value} {pc : Nat}
theorem J_eq {ws' : va_W} (h : ws = ws') (kk : J x G ws' k n lv st pc) : J x G ws k n lv st pc := h ▸ kk
theorem J_lv {lv' : List (Nat × Value)} (ks : List Nat) (h : lv_pick lv ks = lv') (kk : J x G ws k n lv' st pc) : J x G ws k n lv st pc :=
  fun H locs ls hP hD hS hL => kk H locs ls hP hD hS (lv_sub hL ks h)
theorem J_wid {k' n' : Nat} (hk : k ≤ k') (hn : n ≤ n') (kk : J x G ws k' n' lv st pc) : J x G ws k n lv st pc :=
  fun H locs ls hP hD hS hL => W.widen hk hn (kk H locs ls hP hD hS hL)
/-- the top of the stack, by an equation -/
theorem J_top {v w : Value} (h : v = w) (kk : J x G ws k n lv (w :: st) pc) : J x G ws k n lv (v :: st) pc := h ▸ kk
theorem J_topi {v w : Int32} (h : v = w) (kk : J x G ws k n lv (.int w :: st) pc) : J x G ws k n lv (.int v :: st) pc := h ▸ kk
/-- getfield -/
theorem J_get (hC : JC x G R cc w0 own nL) {C : String} {T : u_T} {N ci idx a : Nat} {fs : List Value} {v : Value} (hin : ∀ w ∈ u_ws C T N, w ∈ GW) (hc : vwCl[ci]? = some (C, T, N)) (hd : decode cc pc = .ok (.getfield idx, 3)) (q kf : Nat) (hk : kf < N)
    (hlink : Cond.fieldLink own idx (T kf).1 (T kf).2.1 (T kf).2.2.1 ∈ GW) (hq : ws[q]? = some (a, .inr (ci, fs))) (hv : fs[kf]? = some v) (kk : J x G ws k n lv (v :: st) (pc + 3)) : J x G ws k n lv (.ref a :: st) pc :=
  fun H locs ls hP hD hS hL => va_get hC.1 hC.2.1 hC.2.2.2.2.1 (fun w h => List.mem_cons_of_mem _ (hin w h)) hC.2.2.2.1 hC.2.2.2.2.2.1 hP q hq hc kf hk (hC.2.2.2.2.1 _ (List.mem_cons_of_mem _ hlink)) (fun _ h => h) hv hd (kk H locs ls hP hD hS hL)
/-- putfield of an int (or of any value that fits) into a field that isn't final -/
theorem J_put (hC : JC x G R cc w0 own nL) {C : String} {T : u_T} {N ci idx a : Nat} {ty : Nat → FieldType} {fs : List Value} {v : Value} {ws' : va_W} (hin : ∀ w ∈ u_ws C T N, w ∈ GW) (hc : vwCl[ci]? = some (C, T, N)) (hty : ∀ j, j < N → parseFieldDescriptor (T j).2.2.1 = some (ty j)) (hnm : ∀ a, a < N → ∀ b, b < N → a ≠ b → (T a).2.1 ≠ (T b).2.1) (hd : decode cc pc = .ok (.putfield idx, 3)) (q kf : Nat) (hk : kf < N)
    (hlink : Cond.fieldLink own idx (T kf).1 (T kf).2.1 (T kf).2.2.1 ∈ GW) (hfin : (T kf).2.2.2 = false) (hq : ws[q]? = some (a, .inr (ci, fs))) (hl : kf < fs.length) (hn : narrow (ty kf) v = v) (hf : fits (ty kf) v = true) (hw : ws.set q (a, .inr (ci, fs.set kf v)) = ws') (kk : J x G ws' k n lv st (pc + 3)) : J x G ws k n lv (v :: .ref a :: st) pc := by
  subst hw
  exact fun H locs ls hP hD hS hL => va_put hC.1 hC.2.1 hC.2.2.2.2.1 (fun w h => List.mem_cons_of_mem _ (hin w h)) ty hty hnm hC.2.2.2.1 hC.2.2.2.2.2.1 hP hD hS q hq hc kf hk (hC.2.2.2.2.1 _ (List.mem_cons_of_mem _ hlink)) (fun _ h => h) hfin (hty kf hk) hn hf hl hd (fun H1 locs1 hP1 hD1 hS1 => kk H1 locs1 ls hP1 hD1 hS1 hL)
/-- putfield of a final field, in its constructor -/
theorem J_putF (hC : JC x G R cc w0 own nL) {C : String} {T : u_T} {N ci idx a : Nat} {ty : Nat → FieldType} {fs : List Value} {v : Value} {ws' : va_W} (hin : ∀ w ∈ u_ws C T N, w ∈ GW) (hc : vwCl[ci]? = some (C, T, N)) (hty : ∀ j, j < N → parseFieldDescriptor (T j).2.2.1 = some (ty j)) (hnm : ∀ a, a < N → ∀ b, b < N → a ≠ b → (T a).2.1 ≠ (T b).2.1) (hi : (jt x).name = "<init>") (hd : decode cc pc = .ok (.putfield idx, 3)) (q kf : Nat) (hk : kf < N)
    (hlink : Cond.fieldLink own idx (T kf).1 (T kf).2.1 (T kf).2.2.1 ∈ GW) (hfin : (T kf).2.2.2 = true) (hdecl : (T kf).1 = own) (hq : ws[q]? = some (a, .inr (ci, fs))) (hl : kf < fs.length) (hn : narrow (ty kf) v = v) (hf : fits (ty kf) v = true) (hw : ws.set q (a, .inr (ci, fs.set kf v)) = ws') (kk : J x G ws' k n lv st (pc + 3)) : J x G ws k n lv (v :: .ref a :: st) pc := by
  subst hw
  exact fun H locs ls hP hD hS hL => va_putF hC.1 hC.2.1 hC.2.2.2.2.1 (fun w h => List.mem_cons_of_mem _ (hin w h)) ty hty hnm hC.2.2.2.1 hC.2.2.2.2.2.1 hP hD hS q hq hc kf hk (hC.2.2.2.2.1 _ (List.mem_cons_of_mem _ hlink)) (fun _ h => h) hfin hi hdecl (hty kf hk) hn hf hl hd (fun H1 locs1 hP1 hD1 hS1 => kk H1 locs1 ls hP1 hD1 hS1 hL)
/-- loads from arrays: at a known place i -/
theorem J_iald (hC : JC x G R cc w0 own nL) {a m i : Nat} {f : Nat → Int32} {v : Int32} (hd : decode cc pc = .ok (.iaload, 1)) (q : Nat) (hq : ws[q]? = some (a, .inl (gc G 0, m, .inl f))) (hi : i < m) (hm : m < 2 ^ 31) (hv : f i = v) (kk : J x G ws k n lv (.int v :: st) (pc + 1)) : J x G ws k n lv (.int (nI i) :: .ref a :: st) pc := by
  subst hv
  intro H locs ls hP hD hS hL
  refine va_iald hC.1 hC.2.1 hC.2.2.2.2.2.1 hP q 0 hq rfl (vp_in_nI hi hm) hd ?_
  rw [nI_clamp (by omega)]
  exact kk H locs ls hP hD hS hL
theorem J_bald (hC : JC x G R cc w0 own nL) {a m i : Nat} {f : Nat → Int32} {v : Int32} (hd : decode cc pc = .ok (.baload, 1)) (q : Nat) (hq : ws[q]? = some (a, .inl (gc G 1, m, .inl f))) (hi : i < m) (hm : m < 2 ^ 31) (hv : f i = v) (kk : J x G ws k n lv (.int v :: st) (pc + 1)) : J x G ws k n lv (.int (nI i) :: .ref a :: st) pc := by
  subst hv
  intro H locs ls hP hD hS hL
  refine va_bald hC.1 hC.2.1 hC.2.2.2.2.2.1 hP q 1 hq rfl (vp_in_nI hi hm) hd ?_
  rw [nI_clamp (by omega)]
  exact kk H locs ls hP hD hS hL
theorem J_zald (hC : JC x G R cc w0 own nL) {a m i : Nat} {f : Nat → Int32} {v : Int32} (hd : decode cc pc = .ok (.baload, 1)) (q : Nat) (hq : ws[q]? = some (a, .inl (gc G 2, m, .inl f))) (hi : i < m) (hm : m < 2 ^ 31) (hv : f i = v) (kk : J x G ws k n lv (.int v :: st) (pc + 1)) : J x G ws k n lv (.int (nI i) :: .ref a :: st) pc := by
  subst hv
  intro H locs ls hP hD hS hL
  refine va_zald hC.1 hC.2.1 hC.2.2.2.2.2.1 hP q 2 hq rfl (vp_in_nI hi hm) hd ?_
  rw [nI_clamp (by omega)]
  exact kk H locs ls hP hD hS hL
theorem J_iast (hC : JC x G R cc w0 own nL) {a m i : Nat} {f : Nat → Int32} {v : Int32} {ws' : va_W} (hd : decode cc pc = .ok (.iastore, 1)) (q : Nat) (hq : ws[q]? = some (a, .inl (gc G 0, m, .inl f))) (hi : i < m) (hm : m < 2 ^ 31) (hw : ws.set q (a, .inl (gc G 0, m, .inl (upd f i v))) = ws') (kk : J x G ws' k n lv st (pc + 1)) : J x G ws k n lv (.int v :: .int (nI i) :: .ref a :: st) pc := by
  subst hw
  intro H locs ls hP hD hS hL
  refine va_iast hC.1 hC.2.1 hC.2.2.2.2.2.1 hP hD hS q 0 hq rfl (vp_in_nI hi hm) hd (fun H1 locs1 hP1 hD1 hS1 => ?_)
  rw [nI_clamp (by omega)] at hP1 hD1
  exact kk H1 locs1 ls hP1 hD1 hS1 hL
theorem J_bast (hC : JC x G R cc w0 own nL) {a m i : Nat} {f : Nat → Int32} {v : Int32} {ws' : va_W} (hd : decode cc pc = .ok (.bastore, 1)) (q : Nat) (hq : ws[q]? = some (a, .inl (gc G 1, m, .inl f))) (hi : i < m) (hm : m < 2 ^ 31) (hw : ws.set q (a, .inl (gc G 1, m, .inl (upd f i (vp_nar .byte v)))) = ws') (kk : J x G ws' k n lv st (pc + 1)) : J x G ws k n lv (.int v :: .int (nI i) :: .ref a :: st) pc := by
  subst hw
  intro H locs ls hP hD hS hL
  refine va_bast hC.1 hC.2.1 hC.2.2.2.2.2.1 hP hD hS q 1 hq rfl (vp_in_nI hi hm) hd (fun H1 locs1 hP1 hD1 hS1 => ?_)
  rw [nI_clamp (by omega)] at hP1 hD1
  exact kk H1 locs1 ls hP1 hD1 hS1 hL
end JM
-- ENDS
def JRi {S : Type} (x : JX) (G : gT) (ty : FieldType) (post : Int32 → S → Prop) (W1 : S → va_W) (mc ms : Nat) : Prop :=
  (jt x).sig.returnType = some ty ∧ (jt x).locks = false ∧ jQ x = MQ (jb x) (va_Qi post (fun u => gB G (W1 u) (jA x)) (jA x) ) (ja x) (js x) mc ms (jA x)
def JRv {S : Type} (x : JX) (G : gT) (post : S → Prop) (W1 : S → va_W) (mc ms : Nat) : Prop :=
  (jt x).sig.returnType = none ∧ (jt x).locks = false ∧ jQ x = MQ (jb x) (va_Qv post (fun u => gB G (W1 u) (jA x)) (jA x)) (ja x) (js x) mc ms (jA x)
theorem J_iret {S : Type} {x : JX} {G : gT} {R : Room} {cc : ByteArray} {w0 : Cond} {own : String} {nL : Nat} {ws : va_W} {k n mc ms : Nat} {lv : List (Nat × Value)} {pc : Nat} {ty : FieldType} {post : Int32 → S → Prop} {W1 : S → va_W} {v : Int32} (hC : JC x G R cc w0 own nL) (hR : JRi x G ty post W1 mc ms)
    (hd : decode cc pc = .ok (.ireturn, 1)) (hn : narrow ty (.int v) = .int v) (u : S) (hp : post v u) (hw : ws = W1 u) (hk : k ≤ mc) (hs : n ≤ ms) : J x G ws k n lv [.int v] pc := by
  subst hw
  intro H locs ls hP hD hS hL
  obtain ⟨hr, hlk, hQ⟩ := hR
  rw [hQ]
  rw [hC.2.2.2.2.2.2.2.2.1] at hS
  refine W.widen hk hs ?_
  exact W.zret hC.1 hC.2.1 hr hn (fun t ht hW => ⟨⟨v, u, rfl, hp, by rw [ht]; exact hP, va_K.moved hW.alike hC.2.2.2.2.2.1, hD⟩, hS.F ht⟩) hS.2.2 hd hlk
theorem J_vret {S : Type} {x : JX} {G : gT} {R : Room} {cc : ByteArray} {w0 : Cond} {own : String} {nL : Nat} {ws : va_W} {k n mc ms : Nat} {lv : List (Nat × Value)} {pc : Nat} {post : S → Prop} {W1 : S → va_W} (hC : JC x G R cc w0 own nL) (hR : JRv x G post W1 mc ms)
    (hd : decode cc pc = .ok (.return_, 1)) (u : S) (hp : post u) (hw : ws = W1 u) (hk : k ≤ mc) (hs : n ≤ ms) : J x G ws k n lv [] pc := by
  subst hw
  intro H locs ls hP hD hS hL
  obtain ⟨hr, hlk, hQ⟩ := hR
  rw [hQ]
  rw [hC.2.2.2.2.2.2.2.2.1] at hS
  refine W.widen hk hs ?_
  exact W.vret hC.1 hC.2.1 hr (fun t ht hW => ⟨⟨u, rfl, hp, by rw [ht]; exact hP, va_K.moved hW.alike hC.2.2.2.2.2.1, hD⟩, hS.F ht⟩) hS.2.2 hd hlk
-- ENTRY
/-- contracts: a method that answers an int (MI), nothing (MV): from a world W0 to a world W1 -/
abbrev MI {S : Type} (l : Launch) (y : MethodName) (cc : ByteArray) (maxL : Nat) (ret : Option FieldType) (rm : Room) (av : List Value) (G : gT) (W0 : va_W) (post : Int32 → S → Prop) (W1 : S → va_W) : Prop := ∀ sz : Nat, Met l y (Cond.code y cc maxL ret :: GW) rm (va_Pc av (gP G W0 sz)) (va_Qi post (fun u => gB G (W1 u) (va_A W0 sz)) (va_A W0 sz)) rm.cells rm.slots (va_A W0 sz)
abbrev MV {S : Type} (l : Launch) (y : MethodName) (cc : ByteArray) (maxL : Nat) (rm : Room) (av : List Value) (G : gT) (W0 : va_W) (post : S → Prop) (W1 : S → va_W) : Prop := ∀ sz : Nat, Met l y (Cond.code y cc maxL none :: GW) rm (va_Pc av (gP G W0 sz)) (va_Qv post (fun u => gB G (W1 u) (va_A W0 sz)) (va_A W0 sz)) rm.cells rm.slots (va_A W0 sz)
/-- a method that answers an int (or boolean, char, byte): its contract out of its walk -/
theorem jm_i {S : Type} {l : Launch} {y : MethodName} {rm : Room} {cc : ByteArray} {maxL : Nat} {ty : FieldType} {av : List Value} {G : gT} {W0 : va_W} {W1 : S → va_W} {post : Int32 → S → Prop} {own : String} (hy : plainName y.cls = true) (ho : y.cls = own) (hn : (lg_sl av).length ≤ maxL)
    (body : ∀ x : JX, jl x = l → JC x G rm cc (Cond.code y cc maxL (some ty)) own maxL → JRi x G ty post W1 rm.cells rm.slots → (jt x).name = y.name → J x G W0 0 0 (lv_args 0 av) [] 0) :
    MI l y cc maxL (some ty) rm av G W0 post W1 := by
  intro sz
  refine Met.ofW (cc := cc) (maxL := maxL) (ret := some ty) hy rfl ?_
  intro p e s m args below meth c s₁ B hml hv
  subst ho
  obtain ⟨rfl, hsz, hP, hK, hD0, hE⟩ := hv
  have hts := atoms_spec (ws := Cond.code y cc maxL (some ty) :: GW) B.pre
  have hown : s.vm.findClass y.cls = some m.cls := findClass_of_methodNamed B.named
  subst hsz
  have hD := hD0.self (sz := s.heap.size)
  have hA : ∀ q : Nat, s.heap.size ≤ q → va_A W0 s.heap.size q := fun q h => Or.inr h
  have hl := lv_entry av (n := maxL) hn
  rw [lg_entry_eq]
  exact body (p, l, e, (headSpec (Cond.code y cc maxL (some ty) :: GW) rm).room, s, m, av.toArray, below, meth, c, va_A W0 s.heap.size, s.heap, MQ below (va_Qi post (fun u => gB G (W1 u) (va_A W0 s.heap.size)) (va_A W0 s.heap.size)) av.toArray s rm.cells rm.slots (va_A W0 s.heap.size)) rfl
    ⟨B.exec, B.bytes, hml, hown, hts, hK, hA, rfl, rfl, hE⟩ ⟨B.returns, B.notSynchronized, rfl⟩ (name_of_methodNamed B.named B.method).1 s.heap [] _ hP hD va_S.rf (hml ▸ hl)
theorem jm_v {S : Type} {l : Launch} {y : MethodName} {rm : Room} {cc : ByteArray} {maxL : Nat} {av : List Value} {G : gT} {W0 : va_W} {W1 : S → va_W} {post : S → Prop} {own : String} (hy : plainName y.cls = true) (ho : y.cls = own) (hn : (lg_sl av).length ≤ maxL)
    (body : ∀ x : JX, jl x = l → JC x G rm cc (Cond.code y cc maxL none) own maxL → JRv x G post W1 rm.cells rm.slots → (jt x).name = y.name → J x G W0 0 0 (lv_args 0 av) [] 0) :
    MV l y cc maxL rm av G W0 post W1 := by
  intro sz
  refine Met.ofW (cc := cc) (maxL := maxL) (ret := none) hy rfl ?_
  intro p e s m args below meth c s₁ B hml hv
  subst ho
  obtain ⟨rfl, hsz, hP, hK, hD0, hE⟩ := hv
  have hts := atoms_spec (ws := Cond.code y cc maxL none :: GW) B.pre
  have hown : s.vm.findClass y.cls = some m.cls := findClass_of_methodNamed B.named
  subst hsz
  have hD := hD0.self (sz := s.heap.size)
  have hA : ∀ q : Nat, s.heap.size ≤ q → va_A W0 s.heap.size q := fun q h => Or.inr h
  have hl := lv_entry av (n := maxL) hn
  rw [lg_entry_eq]
  exact body (p, l, e, (headSpec (Cond.code y cc maxL none :: GW) rm).room, s, m, av.toArray, below, meth, c, va_A W0 s.heap.size, s.heap, MQ below (va_Qv post (fun u => gB G (W1 u) (va_A W0 s.heap.size)) (va_A W0 s.heap.size)) av.toArray s rm.cells rm.slots (va_A W0 s.heap.size)) rfl
    ⟨B.exec, B.bytes, hml, hown, hts, hK, hA, rfl, rfl, hE⟩ ⟨B.returns, B.notSynchronized, rfl⟩ (name_of_methodNamed B.named B.method).1 s.heap [] _ hP hD va_S.rf (hml ▸ hl)
-- CALLS
/-- the words of a callee by invokevirtual, out of the caller's -/
theorem gwV {w0 : Cond} {own C : String} {idx maxL : Nat} {y : MethodName} {cc : ByteArray} {ret : Option FieldType} (h1 : Cond.methodLink own idx y ∈ GW) (h2 : Cond.instanceMethod y ∈ GW) (h3 : Cond.selects C y y ∈ GW) (h4 : Cond.initialized C ∈ GW) (h5 : Cond.code y cc maxL ret ∈ GW) : GoodIn (w0 :: GW) (wsV own idx C y (Cond.code y cc maxL ret :: GW)) := by
  have K : ∀ w ∈ wsV own idx C y (Cond.code y cc maxL ret :: GW), w ∈ GW := by
    intro w hw
    simp only [wsV, List.mem_append, List.mem_cons, List.not_mem_nil, or_false] at hw
    rcases hw with (rfl | rfl | rfl | rfl) | rfl | hw
    · exact h1
    · exact h2
    · exact h3
    · exact h4
    · exact h5
    · exact hw
  exact fun w hw => ⟨List.mem_cons_of_mem _ (K w hw), gw_good w (K w hw)⟩
theorem gwS {w0 : Cond} {own : String} {idx maxL : Nat} {y : MethodName} {cc : ByteArray} {ret : Option FieldType} (h1 : Cond.methodLink own idx y ∈ GW) (h2 : Cond.static y ∈ GW) (h4 : Cond.initialized own ∈ GW) (h5 : Cond.code y cc maxL ret ∈ GW) : GoodIn (w0 :: GW) (wsS own idx y (Cond.code y cc maxL ret :: GW)) := by
  have K : ∀ w ∈ wsS own idx y (Cond.code y cc maxL ret :: GW), w ∈ GW := by
    intro w hw
    simp only [wsS, List.mem_append, List.mem_cons, List.not_mem_nil, or_false] at hw
    rcases hw with (rfl | rfl | rfl) | rfl | hw
    · exact h1
    · exact h2
    · exact h4
    · exact h5
    · exact hw
  exact fun w hw => ⟨List.mem_cons_of_mem _ (K w hw), gw_good w (K w hw)⟩
/-- what the tables say of a method that is called by invokevirtual (YV) or invokestatic (YS) -/
def YV (y : MethodName) (C : String) (cc : ByteArray) (maxL : Nat) (ret : Option FieldType) (na : Nat) : Prop := Cond.instanceMethod y ∈ GW ∧ Cond.selects C y y ∈ GW ∧ Cond.initialized C ∈ GW ∧ Cond.code y cc maxL ret ∈ GW ∧ (y.cls = C ∧ y.cls ≠ "java/lang/invoke/MethodHandle" ∧ y.cls ≠ "java/lang/invoke/VarHandle" ∧ (parseMethodDescriptor y.desc).map (fun d => d.parameters.length) = some na)
def YS (y : MethodName) (C : String) (cc : ByteArray) (maxL : Nat) (ret : Option FieldType) (na : Nat) : Prop := Cond.static y ∈ GW ∧ Cond.initialized C ∈ GW ∧ Cond.code y cc maxL ret ∈ GW ∧ (y.cls = C ∧ y.cls ≠ "java/lang/invoke/MethodHandle" ∧ y.cls ≠ "java/lang/invoke/VarHandle" ∧ (parseMethodDescriptor y.desc).map (fun d => d.parameters.length) = some na)
theorem va_A_in {A : Nat → Prop} {ws : va_W} {H0 H : Heap} {locs : List Loc} (hD : va_D A ws) (hS : va_S A H0 H locs) (hA : ∀ q : Nat, H0.size ≤ q → A q) : ∀ q, va_A ws H.size q → A q := by
  intro q h
  rcases h with ⟨k, e, h⟩ | h
  · exact hD.2 k (q, e) h
  · exact hA q (Nat.le_trans hS.1 h)
section JCALL
variable {S : Type} {x : JX} {G : gT} {R : Room} {cc : ByteArray} {w0 : Cond} {own : String} {nL : Nat} {ws : va_W} {k n : Nat} {lv : List (Nat × Value)} {st rest : List Value} {pc : Nat}
variable {C : String} {idx maxLY na : Nat} {y : MethodName} {ccY : ByteArray} {ret : Option FieldType} {rmY : Room} {As : List Value} {b : Nat}
theorem J_callVi {post : Int32 → S → Prop} {W1 : S → va_W} {T : u_T} {N : Nat} {fs : List Value} (hC : JC x G R cc w0 own nL) (hd : decode cc pc = .ok (.invokevirtual idx, 3)) (hl : Cond.methodLink own idx y ∈ GW) (hY : YV y C ccY maxLY ret na)
    (hM : MI (jl x) y ccY maxLY ret rmY (.ref b :: As) G ws post W1)
    (hst : st = As.reverse ++ .ref b :: rest) (hna : As.length = na) (q ci : Nat) (hq : ws[q]? = some (b, .inr (ci, fs))) (hc : vwCl[ci]? = some (C, T, N))
    (hR : rmY.frames + 1 ≤ R.frames ∧ 8 + (maxLY + 11) + rmY.locals ≤ R.locals) (hcat : (rest.map fun v => v.category).sum ≤ 8) (hk : k + rmY.cells ≤ R.cells) (hn : n + rmY.slots ≤ R.slots)
    (kk : ∀ (r : Int32) (u : S), post r u → J x G (W1 u) (k + rmY.cells) (n + rmY.slots) lv (.int r :: rest) (pc + 3)) : J x G ws k n lv st pc := by
  intro H locs ls hP hD hS hL
  have hK := hC.2.2.2.2.2.1
  have hRR : jR x = R := hC.2.2.2.2.2.2.2.1
  have hE := hC.2.2.2.2.2.2.2.2.2
  have hF := va_A_in hD hS hC.2.2.2.2.2.2.1
  refine va_calli (va_runV (As := As) (rest := rest) ⟨hC.1, hC.2.1, hC.2.2.1, hC.2.2.2.1, hC.2.2.2.2.1⟩ (hM H.size) (cwV na hC.2.2.2.2.1 (gwV hl hY.1 hY.2.1 hY.2.2.1 hY.2.2.2.1) rfl rfl rfl hY.2.2.2.2 (by rw [hRR]; exact hR)) ⟨gP_blind _ _ _ _, va_recv hK hP hc hq, fun U hU hW => ⟨rfl, by rw [hU], by rw [hU]; exact hP, va_K.moved hW.alike hK, hD.weaken (fun _ _ _ _ => trivial), hE.step hW (by rw [hU]; intro q hq hn; rw [hC.2.2.2.2.2.2.2.2.1] at hS; exact hS.2.1 q hq hn) hF⟩⟩ rfl hna (hL.1.trans hC.2.2.1) hst (lv_room hcat) hd (by rw [hRR]; exact ⟨hk, hn⟩)) hS (fun q _ h => hF q h) hF (fun r u t H1 locs1 ht hvm hw hB hz hk1 hS1 => ?_)
  obtain ⟨hP1, hK1, hD1⟩ := hB
  rw [ht] at hP1
  exact kk r u hw H1 locs1 ls hP1 (hD1.weaken (fun _ _ _ h => hF _ h)) hS1 hL
theorem J_callVv {post : S → Prop} {W1 : S → va_W} {T : u_T} {N : Nat} {fs : List Value} (hC : JC x G R cc w0 own nL) (hd : decode cc pc = .ok (.invokevirtual idx, 3)) (hl : Cond.methodLink own idx y ∈ GW) (hY : YV y C ccY maxLY none na)
    (hM : MV (jl x) y ccY maxLY rmY (.ref b :: As) G ws post W1)
    (hst : st = As.reverse ++ .ref b :: rest) (hna : As.length = na) (q ci : Nat) (hq : ws[q]? = some (b, .inr (ci, fs))) (hc : vwCl[ci]? = some (C, T, N))
    (hR : rmY.frames + 1 ≤ R.frames ∧ 8 + (maxLY + 11) + rmY.locals ≤ R.locals) (hcat : (rest.map fun v => v.category).sum ≤ 8) (hk : k + rmY.cells ≤ R.cells) (hn : n + rmY.slots ≤ R.slots)
    (kk : ∀ (u : S), post u → J x G (W1 u) (k + rmY.cells) (n + rmY.slots) lv rest (pc + 3)) : J x G ws k n lv st pc := by
  intro H locs ls hP hD hS hL
  have hK := hC.2.2.2.2.2.1
  have hRR : jR x = R := hC.2.2.2.2.2.2.2.1
  have hE := hC.2.2.2.2.2.2.2.2.2
  have hF := va_A_in hD hS hC.2.2.2.2.2.2.1
  refine va_callv (va_runV (As := As) (rest := rest) ⟨hC.1, hC.2.1, hC.2.2.1, hC.2.2.2.1, hC.2.2.2.2.1⟩ (hM H.size) (cwV na hC.2.2.2.2.1 (gwV hl hY.1 hY.2.1 hY.2.2.1 hY.2.2.2.1) rfl rfl rfl hY.2.2.2.2 (by rw [hRR]; exact hR)) ⟨gP_blind _ _ _ _, va_recv hK hP hc hq, fun U hU hW => ⟨rfl, by rw [hU], by rw [hU]; exact hP, va_K.moved hW.alike hK, hD.weaken (fun _ _ _ _ => trivial), hE.step hW (by rw [hU]; intro q hq hn; rw [hC.2.2.2.2.2.2.2.2.1] at hS; exact hS.2.1 q hq hn) hF⟩⟩ rfl hna (hL.1.trans hC.2.2.1) hst (lv_room hcat) hd (by rw [hRR]; exact ⟨hk, hn⟩)) hS (fun q _ h => hF q h) hF (fun u t H1 locs1 ht hvm hw hB hz hk1 hS1 => ?_)
  obtain ⟨hP1, hK1, hD1⟩ := hB
  rw [ht] at hP1
  exact kk u hw H1 locs1 ls hP1 (hD1.weaken (fun _ _ _ h => hF _ h)) hS1 hL
theorem J_callSi {post : Int32 → S → Prop} {W1 : S → va_W} (hC : JC x G R cc w0 own nL) (hd : decode cc pc = .ok (.invokestatic idx, 3)) (hl : Cond.methodLink own idx y ∈ GW) (hio : Cond.initialized own ∈ GW) (hY : YS y C ccY maxLY ret na)
    (hM : MI (jl x) y ccY maxLY ret rmY As G ws post W1)
    (hst : st = As.reverse ++ rest) (hna : As.length = na)
    (hR : rmY.frames + 1 ≤ R.frames ∧ 8 + (maxLY + 11) + rmY.locals ≤ R.locals) (hcat : (rest.map fun v => v.category).sum ≤ 8) (hk : k + rmY.cells ≤ R.cells) (hn : n + rmY.slots ≤ R.slots)
    (kk : ∀ (r : Int32) (u : S), post r u → J x G (W1 u) (k + rmY.cells) (n + rmY.slots) lv (.int r :: rest) (pc + 3)) : J x G ws k n lv st pc := by
  intro H locs ls hP hD hS hL
  have hK := hC.2.2.2.2.2.1
  have hRR : jR x = R := hC.2.2.2.2.2.2.2.1
  have hE := hC.2.2.2.2.2.2.2.2.2
  have hF := va_A_in hD hS hC.2.2.2.2.2.2.1
  have ht0 := hC.2.2.2.2.1
  refine va_calli (va_runS (As := As) (rest := rest) ⟨hC.1, hC.2.1, hC.2.2.1, hC.2.2.2.1, hC.2.2.2.2.1⟩ (hM H.size) ⟨callB_of na ht0 (fun w hw => (gwS (w0 := w0) hl hY.1 hio hY.2.2.1) w (by unfold wsS; exact List.mem_append_right _ hw)) rfl rfl rfl (ht0 _ (List.mem_cons_of_mem _ (by rw [hY.2.2.2.1]; exact hY.2.1))) (ht0 _ (List.mem_cons_of_mem _ hl)) hY.2.2.2.2 (by rw [hRR]; exact hR), ht0 _ (List.mem_cons_of_mem _ hY.1)⟩ ⟨gP_blind _ _ _ _, fun U hU hW => ⟨rfl, by rw [hU], by rw [hU]; exact hP, va_K.moved hW.alike hK, hD.weaken (fun _ _ _ _ => trivial), hE.step hW (by rw [hU]; intro q hq hn; rw [hC.2.2.2.2.2.2.2.2.1] at hS; exact hS.2.1 q hq hn) hF⟩⟩ rfl hna (hL.1.trans hC.2.2.1) hst (lv_room hcat) hd (by rw [hRR]; exact ⟨hk, hn⟩)) hS (fun q _ h => hF q h) hF (fun r u t H1 locs1 ht hvm hw hB hz hk1 hS1 => ?_)
  obtain ⟨hP1, hK1, hD1⟩ := hB
  rw [ht] at hP1
  exact kk r u hw H1 locs1 ls hP1 (hD1.weaken (fun _ _ _ h => hF _ h)) hS1 hL
theorem J_callSv {post : S → Prop} {W1 : S → va_W} (hC : JC x G R cc w0 own nL) (hd : decode cc pc = .ok (.invokestatic idx, 3)) (hl : Cond.methodLink own idx y ∈ GW) (hio : Cond.initialized own ∈ GW) (hY : YS y C ccY maxLY none na)
    (hM : MV (jl x) y ccY maxLY rmY As G ws post W1)
    (hst : st = As.reverse ++ rest) (hna : As.length = na)
    (hR : rmY.frames + 1 ≤ R.frames ∧ 8 + (maxLY + 11) + rmY.locals ≤ R.locals) (hcat : (rest.map fun v => v.category).sum ≤ 8) (hk : k + rmY.cells ≤ R.cells) (hn : n + rmY.slots ≤ R.slots)
    (kk : ∀ (u : S), post u → J x G (W1 u) (k + rmY.cells) (n + rmY.slots) lv rest (pc + 3)) : J x G ws k n lv st pc := by
  intro H locs ls hP hD hS hL
  have hK := hC.2.2.2.2.2.1
  have hRR : jR x = R := hC.2.2.2.2.2.2.2.1
  have hE := hC.2.2.2.2.2.2.2.2.2
  have hF := va_A_in hD hS hC.2.2.2.2.2.2.1
  have ht0 := hC.2.2.2.2.1
  refine va_callv (va_runS (As := As) (rest := rest) ⟨hC.1, hC.2.1, hC.2.2.1, hC.2.2.2.1, hC.2.2.2.2.1⟩ (hM H.size) ⟨callB_of na ht0 (fun w hw => (gwS (w0 := w0) hl hY.1 hio hY.2.2.1) w (by unfold wsS; exact List.mem_append_right _ hw)) rfl rfl rfl (ht0 _ (List.mem_cons_of_mem _ (by rw [hY.2.2.2.1]; exact hY.2.1))) (ht0 _ (List.mem_cons_of_mem _ hl)) hY.2.2.2.2 (by rw [hRR]; exact hR), ht0 _ (List.mem_cons_of_mem _ hY.1)⟩ ⟨gP_blind _ _ _ _, fun U hU hW => ⟨rfl, by rw [hU], by rw [hU]; exact hP, va_K.moved hW.alike hK, hD.weaken (fun _ _ _ _ => trivial), hE.step hW (by rw [hU]; intro q hq hn; rw [hC.2.2.2.2.2.2.2.2.1] at hS; exact hS.2.1 q hq hn) hF⟩⟩ rfl hna (hL.1.trans hC.2.2.1) hst (lv_room hcat) hd (by rw [hRR]; exact ⟨hk, hn⟩)) hS (fun q _ h => hF q h) hF (fun u t H1 locs1 ht hvm hw hB hz hk1 hS1 => ?_)
  obtain ⟨hP1, hK1, hD1⟩ := hB
  rw [ht] at hP1
  exact kk u hw H1 locs1 ls hP1 (hD1.weaken (fun _ _ _ h => hF _ h)) hS1 hL
end JCALL
-- THE FRAME RULE OF A CONTRACT
theorem va_P_iff {D : va_G} {cl : List vw_C} {ws : va_W} {H : Heap} : va_P D cl ws H ↔ ∀ q ∈ ws, va_at D cl q H :=
  ⟨fun h q hq => by obtain ⟨k, hk⟩ := List.getElem?_of_mem hq; exact h k q hk, fun h k q hk => h q (List.mem_of_getElem? hk)⟩
theorem va_D_iff {A : Nat → Prop} {ws : va_W} : va_D A ws ↔ (ws.map Prod.fst).Nodup ∧ ∀ q ∈ ws, A q.1 := by
  constructor
  · intro h
    refine ⟨?_, fun q hq => by obtain ⟨k, hk⟩ := List.getElem?_of_mem hq; exact h.2 k q hk⟩
    rw [List.Nodup, List.pairwise_iff_getElem]
    intro i j hi hj hij e
    rw [List.length_map] at hi hj
    rw [List.getElem_map, List.getElem_map] at e
    have := h.1 i j ws[i] ws[j] (List.getElem?_eq_getElem hi) (List.getElem?_eq_getElem hj) e
    omega
  · intro h
    refine ⟨fun i j p q hp hq e => ?_, fun k q hk => h.2 q (List.mem_of_getElem? hk)⟩
    obtain ⟨hi, ei⟩ := List.getElem?_eq_some_iff.mp hp
    obtain ⟨hj, ej⟩ := List.getElem?_eq_some_iff.mp hq
    have hn := h.1
    rw [List.Nodup, List.pairwise_iff_getElem] at hn
    rcases Nat.lt_trichotomy i j with c | c | c
    · exact absurd (by rw [List.getElem_map, List.getElem_map, ei, ej, e]) (hn i j (by rw [List.length_map]; exact hi) (by rw [List.length_map]; exact hj) c)
    · exact c
    · exact absurd (by rw [List.getElem_map, List.getElem_map, ei, ej, e]) (hn j i (by rw [List.length_map]; exact hj) (by rw [List.length_map]; exact hi) c)
theorem va_P_perm {D : va_G} {cl : List vw_C} {w1 w2 : va_W} {H : Heap} (h : w1.Perm w2) (hP : va_P D cl w1 H) : va_P D cl w2 H := va_P_iff.mpr fun q hq => va_P_iff.mp hP q (h.mem_iff.mpr hq)
theorem va_D_perm {A : Nat → Prop} {w1 w2 : va_W} (h : w1.Perm w2) (hD : va_D A w1) : va_D A w2 := by
  have hd := va_D_iff.mp hD
  exact va_D_iff.mpr ⟨((h.map Prod.fst).nodup_iff).mp hd.1, fun q hq => hd.2 q (h.mem_iff.mpr hq)⟩
theorem va_A_iff {ws : va_W} {sz q : Nat} : va_A ws sz q ↔ (∃ e, (q, e) ∈ ws) ∨ sz ≤ q :=
  ⟨fun h => h.elim (fun ⟨k, e, hk⟩ => Or.inl ⟨e, List.mem_of_getElem? hk⟩) Or.inr, fun h => h.elim (fun ⟨e, he⟩ => by obtain ⟨k, hk⟩ := List.getElem?_of_mem he; exact Or.inl ⟨k, e, hk⟩) Or.inr⟩
theorem fr_go {G : gT} {W0 wc wr w1 W1 : va_W} {sz : Nat} {s t : State} (h0 : W0.Perm (wc ++ wr)) (h1 : (w1 ++ wr).Perm W1) (hp : gP G W0 sz s) (hB : gB G w1 (va_A wc sz) t) (hF : va_F (va_A wc sz) s t) : gB G W1 (va_A W0 sz) t ∧ va_F (va_A W0 sz) s t := by
  obtain ⟨hsz, hP, hK, hD, hE⟩ := hp
  obtain ⟨hP1, hK1, hD1⟩ := hB
  have hP2 := va_P_perm h0 hP
  have hD2 := va_D_perm h0 hD
  have mono : ∀ q, va_A wc sz q → va_A W0 sz q := fun q h => va_A_iff.mpr ((va_A_iff.mp h).elim (fun ⟨e, he⟩ => Or.inl ⟨e, h0.mem_iff.mpr (List.mem_append_left _ he)⟩) Or.inr)
  have hdd := va_D_iff.mp hD2
  rw [List.map_append, List.nodup_append] at hdd
  have far : ∀ q ∈ wr, q.1 < s.heap.size ∧ ¬ va_A wc sz q.1 := by
    intro q hq
    have hl := (va_P_iff.mp hP2 q (List.mem_append_right _ hq)).lt
    refine ⟨hl, fun h => ?_⟩
    rcases va_A_iff.mp h with ⟨e, he⟩ | h
    · exact hdd.1.2.2 q.1 (List.mem_map.mpr ⟨_, he, rfl⟩) q.1 (List.mem_map.mpr ⟨_, hq, rfl⟩) rfl
    · omega
  refine ⟨⟨va_P_perm h1 (va_P_iff.mpr fun q hq => ?_), hK1, va_D_perm h1 (va_D_iff.mpr ⟨?_, fun q hq => ?_⟩)⟩, hF.1, fun q h2 h3 => hF.2 q h2 (fun h => h3 (mono q h))⟩
  · rcases List.mem_append.mp hq with h | h
    · exact va_P_iff.mp hP1 q h
    · exact (va_P_iff.mp hP2 q (List.mem_append_right _ h)).kept (hF.2 q.1 (far q h).1 (far q h).2)
  · rw [List.map_append, List.nodup_append]
    refine ⟨(va_D_iff.mp hD1).1, hdd.1.2.1, fun a ha b hb e => ?_⟩
    obtain ⟨p, hp, rfl⟩ := List.mem_map.mp ha
    obtain ⟨r, hr, rfl⟩ := List.mem_map.mp hb
    exact (far r hr).2 (by rw [← e]; exact (va_D_iff.mp hD1).2 p hp)
  · rcases List.mem_append.mp hq with h | h
    · exact mono _ ((va_D_iff.mp hD1).2 q h)
    · exact va_A_iff.mpr (Or.inl ⟨q.2, h0.mem_iff.mpr (List.mem_append_right _ h)⟩)
theorem fr_sub {G : gT} {W0 wc wr : va_W} {sz : Nat} {s : State} (h0 : W0.Perm (wc ++ wr)) (hp : gP G W0 sz s) : gP G wc sz s := by
  obtain ⟨hsz, hP, hK, hD, hE⟩ := hp
  refine ⟨hsz, va_P_iff.mpr fun q hq => va_P_iff.mp hP q (h0.mem_iff.mpr (List.mem_append_left _ hq)), hK, va_D_iff.mpr ⟨?_, fun _ _ => trivial⟩, hE.narrow (fun q h => va_A_iff.mpr ((va_A_iff.mp h).elim (fun ⟨e, he⟩ => Or.inl ⟨e, h0.mem_iff.mpr (List.mem_append_left _ he)⟩) Or.inr))⟩
  have := (va_D_iff.mp (va_D_perm h0 hD)).1
  rw [List.map_append, List.nodup_append] at this
  exact this.1
theorem fr_mono {W0 wc wr : va_W} {sz : Nat} (h0 : W0.Perm (wc ++ wr)) : ∀ q, va_A wc sz q → va_A W0 sz q := fun q h => va_A_iff.mpr ((va_A_iff.mp h).elim (fun ⟨e, he⟩ => Or.inl ⟨e, h0.mem_iff.mpr (List.mem_append_left _ he)⟩) Or.inr)
section FR
variable {S : Type} {l : Launch} {y : MethodName} {ws : List Cond} {rm : Room} {av : List Value} {G : gT} {W0 wc wr : va_W} {w1 W1 : S → va_W} {mc ms : Nat}
theorem fr_i {post : Int32 → S → Prop} (hM : ∀ sz : Nat, Met l y ws rm (va_Pc av (gP G wc sz)) (va_Qi post (fun u => gB G (w1 u) (va_A wc sz)) (va_A wc sz)) mc ms (va_A wc sz)) (h0 : W0.Perm (wc ++ wr)) (h1 : ∀ u, (w1 u ++ wr).Perm (W1 u)) :
    ∀ sz : Nat, Met l y ws rm (va_Pc av (gP G W0 sz)) (va_Qi post (fun u => gB G (W1 u) (va_A W0 sz)) (va_A W0 sz)) mc ms (va_A W0 sz) := by
  intro sz p e ha hc hk s m args below hf happ hP hKt
  obtain ⟨n, o, g1, g2, g3, ⟨⟨r, u, ho, hpost, hB⟩, hF⟩, L, hFE, hL⟩ := hM sz p e ha hc hk s m args below hf happ ⟨hP.1, fr_sub h0 hP.2⟩ trivial
  obtain ⟨hB2, hF2⟩ := fr_go h0 (h1 u) hP.2 hB hF
  exact ⟨n, o, g1, g2, g3, ⟨⟨r, u, ho, hpost, hB2⟩, hF2⟩, L, hFE, fun q hq => fr_mono h0 _ (hL q hq)⟩
theorem fr_v {post : S → Prop} (hM : ∀ sz : Nat, Met l y ws rm (va_Pc av (gP G wc sz)) (va_Qv post (fun u => gB G (w1 u) (va_A wc sz)) (va_A wc sz)) mc ms (va_A wc sz)) (h0 : W0.Perm (wc ++ wr)) (h1 : ∀ u, (w1 u ++ wr).Perm (W1 u)) :
    ∀ sz : Nat, Met l y ws rm (va_Pc av (gP G W0 sz)) (va_Qv post (fun u => gB G (W1 u) (va_A W0 sz)) (va_A W0 sz)) mc ms (va_A W0 sz) := by
  intro sz p e ha hc hk s m args below hf happ hP hKt
  obtain ⟨n, o, g1, g2, g3, ⟨⟨u, ho, hpost, hB⟩, hF⟩, L, hFE, hL⟩ := hM sz p e ha hc hk s m args below hf happ ⟨hP.1, fr_sub h0 hP.2⟩ trivial
  obtain ⟨hB2, hF2⟩ := fr_go h0 (h1 u) hP.2 hB hF
  exact ⟨n, o, g1, g2, g3, ⟨⟨u, ho, hpost, hB2⟩, hF2⟩, L, hFE, fun q hq => fr_mono h0 _ (hL q hq)⟩
end FR
end
section
theorem nI_inc (a : Nat) : nI a + Int32.ofInt 1 = nI (a + 1) := nI_1 a
theorem nI_incc (a c : Nat) (d : Int) (h : Int32.ofInt d = nI c) : nI a + Int32.ofInt d = nI (a + c) := by rw [h]; exact nI_add a c
theorem nI_dec {a : Nat} (h : 0 < a) : nI a + Int32.ofInt (-1) = nI (a - 1) := by
  obtain ⟨b, rfl⟩ : ∃ b, a = b + 1 := ⟨a - 1, by omega⟩
  rw [show b + 1 - 1 = b by omega]
  exact pk_m1 b
theorem i_inc {a c : Int32} {d : Int} (h : Int32.ofInt d = c) : a + Int32.ofInt d = a + c := by rw [h]
/-- contents: rows of ints -/
abbrev CT : Type := Nat → Nat → Int32
def ur (S : CT) (r : Nat) (f : Nat → Int32) : CT := fun r' => if r' = r then f else S r'
def us (S : CT) (r j : Nat) (v : Int32) : CT := fun r' => if r' = r then upd (S r) j v else S r'
/-- a State of the class at the addresses a 0 .. a 21. Rows: 0 names, 1 people, 2 trusts of the villages; 3 names, 4 villages, 5 periods, 6 stocks, 7 prices of the fairs; 8 odds, 9 drawn; 10 villages, 11 days, 12 weathers, 13 sold, 14 paid of the book; 15 labels of regrets; 16: 0 day, 1 coins, 2 hits, 3 regrets, 4 retractions, 5 copiesSold, 6 copiesGone, 7 coinsEarned, 8 coinsPaidBack, 9 villages, 10 fairs, 11 seed, 12 forecasts, 13 regrets remembered -/
def stW (G : gT) (a : Nat → Nat) (S : CT) : va_W := [(a 0, .inr (8, [.ref (a 1), .ref (a 5), .ref (a 11), .ref (a 14), .ref (a 20), .int (S 16 0), .int (S 16 1), .int (S 16 2), .int (S 16 3), .int (S 16 4), .int (S 16 5), .int (S 16 6), .int (S 16 7), .int (S 16 8)])), (a 1, .inr (9, [.ref (a 2), .ref (a 3), .ref (a 4), .int (S 16 9)])), (a 2, .inl (gc G 0, 6, .inl (S 0))), (a 3, .inl (gc G 0, 6, .inl (S 1))), (a 4, .inl (gc G 0, 6, .inl (S 2))), (a 5, .inr (2, [.ref (a 6), .ref (a 7), .ref (a 8), .ref (a 9), .ref (a 10), .int (S 16 10)])), (a 6, .inl (gc G 0, 6, .inl (S 3))), (a 7, .inl (gc G 0, 6, .inl (S 4))), (a 8, .inl (gc G 0, 6, .inl (S 5))), (a 9, .inl (gc G 0, 6, .inl (S 6))), (a 10, .inl (gc G 0, 6, .inl (S 7))), (a 11, .inr (7, [.ref (a 12), .ref (a 13), .int (S 16 11)])), (a 12, .inl (gc G 0, 3, .inl (S 8))), (a 13, .inl (gc G 0, 3, .inl (S 9))), (a 14, .inr (0, [.ref (a 15), .ref (a 16), .ref (a 17), .ref (a 18), .ref (a 19), .int (S 16 12)])), (a 15, .inl (gc G 0, 30, .inl (S 10))), (a 16, .inl (gc G 0, 30, .inl (S 11))), (a 17, .inl (gc G 0, 30, .inl (S 12))), (a 18, .inl (gc G 0, 30, .inl (S 13))), (a 19, .inl (gc G 0, 30, .inl (S 14))), (a 20, .inr (4, [.ref (a 21), .int (S 16 13)])), (a 21, .inl (gc G 0, 10, .inl (S 15)))]
/-- a row of bytes: row 0 the bytes, row 1 the length -/
def byW (G : gT) (a : Nat → Nat) (B : CT) : va_W := [(a 0, .inr (1, [.ref (a 1), .int (B 1 0)])), (a 1, .inl (gc G 1, 600, .inl (B 0)))]
section JMORE
variable {x : JX} {G : gT} {R : Room} {cc : ByteArray} {w0 : Cond} {own : String} {nL : Nat} {ws : va_W} {k n n' : Nat} {lv : List (Nat × Value)} {st : List Value} {pc : Nat}
theorem J_mmin (hC : JC x G R cc w0 own nL) {a b v : Int32} {idx : Nat} (hd : decode cc pc = .ok (.invokestatic idx, 3)) (hl : Cond.methodLink own idx Lib.Math.min.name ∈ GW) (hf : 1 ≤ R.frames) (hlo : (st.map fun v => v.category).sum + 13 ≤ R.locals) (hk : k ≤ R.cells) (hn : n ≤ R.slots) (hv : (if b < a then b else a) = v) (kk : J x G ws k n lv (.int v :: st) (pc + 3)) : J x G ws k n lv (.int b :: .int a :: st) pc := by
  subst hv
  intro H locs ls hP hD hS hL
  have hRR : jR x = R := hC.2.2.2.2.2.2.2.1
  have W9 : ∀ w ∈ GW, w.before (ja x) (js x) = true := fun w h => hC.2.2.2.2.1 w (List.mem_cons_of_mem _ h)
  exact va_mmin hC.1 hC.2.1 hL.1.symm hC.2.2.2.1 (W9 _ hl) (W9 _ wst_Lib_Math_min_name) (W9 _ wi_J9) (W9 _ wc_Lib_Math_min_name) (by rw [hRR]; exact hf) (by rw [hRR]; exact hlo) (by rw [hRR]; exact hk) (by rw [hRR]; exact hn) hd (kk H locs ls hP hD hS hL)
theorem J_mmax (hC : JC x G R cc w0 own nL) {a b v : Int32} {idx : Nat} (hd : decode cc pc = .ok (.invokestatic idx, 3)) (hl : Cond.methodLink own idx Lib.Math.max.name ∈ GW) (hf : 1 ≤ R.frames) (hlo : (st.map fun v => v.category).sum + 13 ≤ R.locals) (hk : k ≤ R.cells) (hn : n ≤ R.slots) (hv : (if a < b then b else a) = v) (kk : J x G ws k n lv (.int v :: st) (pc + 3)) : J x G ws k n lv (.int b :: .int a :: st) pc := by
  subst hv
  intro H locs ls hP hD hS hL
  have hRR : jR x = R := hC.2.2.2.2.2.2.2.1
  have W9 : ∀ w ∈ GW, w.before (ja x) (js x) = true := fun w h => hC.2.2.2.2.1 w (List.mem_cons_of_mem _ h)
  exact va_mmax hC.1 hC.2.1 hL.1.symm hC.2.2.2.1 (W9 _ hl) (W9 _ wst_Lib_Math_max_name) (W9 _ wi_J9) (W9 _ wc_Lib_Math_max_name) (by rw [hRR]; exact hf) (by rw [hRR]; exact hlo) (by rw [hRR]; exact hk) (by rw [hRR]; exact hn) hd (kk H locs ls hP hD hS hL)
theorem J_copy (hC : JC x G R cc w0 own nL) {idx a0 a n0 n1 sp dp m : Nat} {f g : Nat → Int32} {ws' : va_W} (hd : decode cc pc = .ok (.invokestatic idx, 3)) (hl : Cond.methodLink own idx arraycopyName ∈ GW) (q0 q1 : Nat) (h0 : ws[q0]? = some (a0, .inl (gc G 0, n0, .inl f))) (h1 : ws[q1]? = some (a, .inl (gc G 0, n1, .inl g)))
    (hs : sp + m ≤ n0) (ht : dp + m ≤ n1) (hb0 : n0 < 2 ^ 31) (hb1 : n1 < 2 ^ 31) (hf : 1 ≤ R.frames) (hlo : (st.map fun v => v.category).sum + (nativeFrameWords "java/lang/System" "arraycopy" 5 + 11) ≤ R.locals) (hw : ws.set q1 (a, .inl (gc G 0, n1, .inl (va_cpy f g sp dp m))) = ws') (kk : J x G ws' k n lv st (pc + 3)) :
    J x G ws k n lv (.int (nI m) :: .int (nI dp) :: .ref a :: .int (nI sp) :: .ref a0 :: st) pc := by
  subst hw
  intro H locs ls hP hD hS hL
  have hRR : jR x = R := hC.2.2.2.2.2.2.2.1
  have W9 : ∀ w ∈ GW, w.before (ja x) (js x) = true := fun w h => hC.2.2.2.2.1 w (List.mem_cons_of_mem _ h)
  have e1 : (nI sp).toNatClampNeg = sp := nI_clamp (by omega)
  have e2 : (nI dp).toNatClampNeg = dp := nI_clamp (by omega)
  have e3 : (nI m).toNatClampNeg = m := nI_clamp (by omega)
  refine va_copyi hC.1 hC.2.1 hL.1.symm hC.2.2.2.1 (W9 _ hl) (W9 _ wnat_arraycopyName) (W9 _ wst_arraycopyName) (W9 _ wi_J10) hC.2.2.2.2.2.1 hP hD hS q0 q1 0 0 (ty := .int) h0 h1 rfl rfl rfl (nI_pos (by omega)) (nI_pos (by omega)) (nI_pos (by omega)) (by rw [e1, e3]; exact hs) (by rw [e2, e3]; exact ht) (fun _ _ => rfl) (by rw [hRR]; exact hf) (by rw [hRR]; exact hlo) hd (fun H1 locs1 hP1 hD1 hS1 => ?_)
  rw [e1, e2, e3] at hP1 hD1
  exact kk H1 locs1 ls hP1 hD1 hS1 hL
theorem va_at_cong {D : va_G} {cl : List vw_C} {a n : Nat} {cA : ClassId} {f g : Nat → Int32} {H : Heap} (h : ∀ i, i < n → f i = g i) (hP : va_at D cl (a, .inl (cA, n, .inl f)) H) : va_at D cl (a, .inl (cA, n, .inl g)) H := by
  have e : vp_cell cA (n, (.inl f : (Nat → Int32) ⊕ _)) = vp_cell cA (n, .inl g) := by
    show arrV cA n (fun j => .int (f j)) = arrV cA n (fun j => .int (g j))
    simp only [arrV, Cell.mk.injEq, true_and, and_true]
    apply Array.ext
    · simp
    · intro i h1 h2
      simp at h1 ⊢
      exact h i h1
  exact hP.trans (congrArg some e)
theorem J_cong {q a n : Nat} {cA : ClassId} {f g : Nat → Int32} (hq : ws[q]? = some (a, .inl (cA, n, .inl f))) (h : ∀ i, i < n → f i = g i) (kk : J x G (ws.set q (a, .inl (cA, n, .inl g))) k n' lv st pc) : J x G ws k n' lv st pc := by
  intro H locs ls hP hD hS hL
  exact kk H locs ls (hP.set hD hq (va_at_cong h (hP q _ hq)) (fun _ _ => rfl)) (hD.set hq) hS hL
theorem J_copyall (hC : JC x G R cc w0 own nL) {idx a0 a m : Nat} {f g : Nat → Int32} {ws' : va_W} (hd : decode cc pc = .ok (.invokestatic idx, 3)) (hl : Cond.methodLink own idx arraycopyName ∈ GW) (q0 q1 : Nat) (h0 : ws[q0]? = some (a0, .inl (gc G 0, m, .inl f))) (h1 : ws[q1]? = some (a, .inl (gc G 0, m, .inl g)))
    (hb0 : m < 2 ^ 31) (hf : 1 ≤ R.frames) (hlo : (st.map fun v => v.category).sum + (nativeFrameWords "java/lang/System" "arraycopy" 5 + 11) ≤ R.locals) (hw : ws.set q1 (a, .inl (gc G 0, m, .inl f)) = ws') (kk : J x G ws' k n lv st (pc + 3)) :
    J x G ws k n lv (.int (nI m) :: .int 0 :: .ref a :: .int 0 :: .ref a0 :: st) pc := by
  subst hw
  refine J_copy (sp := 0) (dp := 0) (m := m) hC hd hl q0 q1 h0 h1 (by omega) (by omega) hb0 hb0 hf hlo rfl ?_
  have hlt : q1 < ws.length := by
    rcases Nat.lt_or_ge q1 ws.length with h | h
    · exact h
    · rw [List.getElem?_eq_none h] at h1; cases h1
  refine J_cong (q := q1) (a := a) (n := m) (cA := gc G 0) (f := va_cpy f g 0 0 m) (g := f) (by rw [List.getElem?_set_self hlt]) (fun i hi => ?_) ?_
  · rw [pk_cpy_in (by omega) (by omega), Nat.zero_add, Nat.sub_zero]
  · rw [List.set_set]
    exact kk
theorem J_callSNi {S : Type} {rest : List Value} {host : String} {C : String} {idx maxLY na : Nat} {y : MethodName} {ccY : ByteArray} {ret : Option FieldType} {rmY : Room} {As : List Value} {post : Int32 → S → Prop} {W1 : S → va_W} (hC : JC x G R cc w0 own nL) (hd : decode cc pc = .ok (.invokestatic idx, 3)) (hl : Cond.methodLinkNest own idx y host ∈ NWL) (hY : YS y C ccY maxLY ret na)
    (hM : MI (jl x) y ccY maxLY ret rmY As G ws post W1)
    (hst : st = As.reverse ++ rest) (hna : As.length = na) (hR : rmY.frames + 1 ≤ R.frames ∧ 8 + (maxLY + 11) + rmY.locals ≤ R.locals) (hcat : (rest.map fun v => v.category).sum ≤ 8) (hk : k + rmY.cells ≤ R.cells) (hn : n + rmY.slots ≤ R.slots)
    (kk : ∀ (r : Int32) (u : S), post r u → J x G (W1 u) (k + rmY.cells) (n + rmY.slots) lv (.int r :: rest) (pc + 3)) : J x G ws k n lv st pc := by
  intro H locs ls hP hD hS hL
  have hK := hC.2.2.2.2.2.1
  have hRR : jR x = R := hC.2.2.2.2.2.2.2.1
  have hE := hC.2.2.2.2.2.2.2.2.2
  have hF := va_A_in hD hS hC.2.2.2.2.2.2.1
  have ht0 := hC.2.2.2.2.1
  refine va_calli (va_runSN (As := As) (rest := rest) ⟨hC.1, hC.2.1, hC.2.2.1, hC.2.2.2.1, hC.2.2.2.2.1⟩ (hM H.size) ⟨va_cnB na ht0 (fun w hw => ⟨(List.mem_cons.mp hw).elim (fun e => List.mem_cons_of_mem _ (e ▸ hY.2.2.1)) (fun h => List.mem_cons_of_mem _ h), gw_good w ((List.mem_cons.mp hw).elim (fun e => e ▸ hY.2.2.1) id)⟩) rfl rfl rfl (hE.1 _ hl) (ht0 _ (List.mem_cons_of_mem _ (by rw [hY.2.2.2.1]; exact hY.2.1))) hY.2.2.2.2 (by rw [hRR]; exact hR), ht0 _ (List.mem_cons_of_mem _ hY.1), trivial⟩ ⟨gP_blind _ _ _ _, fun U hU hW => ⟨rfl, by rw [hU], by rw [hU]; exact hP, va_K.moved hW.alike hK, hD.weaken (fun _ _ _ _ => trivial), hE.step hW (by rw [hU]; intro q hq hn; rw [hC.2.2.2.2.2.2.2.2.1] at hS; exact hS.2.1 q hq hn) hF⟩⟩ rfl hna (hL.1.trans hC.2.2.1) hst (lv_room hcat) hd (by rw [hRR]; exact ⟨hk, hn⟩)) hS (fun q _ h => hF q h) hF (fun r u t H1 locs1 ht hvm hw hB hz hk1 hS1 => ?_)
  obtain ⟨hP1, hK1, hD1⟩ := hB
  rw [ht] at hP1
  exact kk r u hw H1 locs1 ls hP1 (hD1.weaken (fun _ _ _ h => hF _ h)) hS1 hL
end JMORE
theorem yi_X1_putText : YV yX1_putText RX1 cX1_putText 3 none 1 := ⟨wn_X1_putText, we_X1_putText, wi_X1, wc_X1_putText, by decide +kernel⟩
theorem yi_X1_put : YV yX1_put RX1 cX1_put 2 none 1 := ⟨wn_X1_put, we_X1_put, wi_X1, wc_X1_put, by decide +kernel⟩
theorem yi_X5_readText : YV yX5_readText RX5 cX5_readText 2 (some FieldType.boolean) 0 := ⟨wn_X5_readText, we_X5_readText, wi_X5, wc_X5_readText, by decide +kernel⟩
theorem yi_X5_readAlmanac : YV yX5_readAlmanac RX5 cX5_readAlmanac 2 (some FieldType.boolean) 0 := ⟨wn_X5_readAlmanac, we_X5_readAlmanac, wi_X5, wc_X5_readAlmanac, by decide +kernel⟩
theorem yi_X6_next : YV yX6_next RX6 cX6_next 2 none 0 := ⟨wn_X6_next, we_X6_next, wi_X6, wc_X6_next, by decide +kernel⟩
theorem yi_X1_at : YV yX1_at RX1 cX1_at 2 (some FieldType.int) 1 := ⟨wn_X1_at, we_X1_at, wi_X1, wc_X1_at, by decide +kernel⟩
theorem yi_X6_isBlank : YV yX6_isBlank RX6 cX6_isBlank 2 (some FieldType.boolean) 1 := ⟨wn_X6_isBlank, we_X6_isBlank, wi_X6, wc_X6_isBlank, by decide +kernel⟩
theorem yi_X10_isLetter : YS yX10_isLetter RX10 cX10_isLetter 1 (some FieldType.boolean) 1 := ⟨wst_X10_isLetter, wi_X10, wc_X10_isLetter, by decide +kernel⟩
theorem yi_X10_isDigit : YS yX10_isDigit RX10 cX10_isDigit 1 (some FieldType.boolean) 1 := ⟨wst_X10_isDigit, wi_X10, wc_X10_isDigit, by decide +kernel⟩
theorem yi_X6_readDigits : YV yX6_readDigits RX6 cX6_readDigits 1 none 0 := ⟨wn_X6_readDigits, we_X6_readDigits, wi_X6, wc_X6_readDigits, by decide +kernel⟩
theorem yi_X6_isWord : YV yX6_isWord RX6 cX6_isWord 3 (some FieldType.boolean) 1 := ⟨wn_X6_isWord, we_X6_isWord, wi_X6, wc_X6_isWord, by decide +kernel⟩
theorem yi_X5_fail : YV yX5_fail RX5 cX5_fail 2 (some FieldType.boolean) 1 := ⟨wn_X5_fail, we_X5_fail, wi_X5, wc_X5_fail, by decide +kernel⟩
theorem yi_X5_readNumber : YV yX5_readNumber RX5 cX5_readNumber 3 (some FieldType.boolean) 2 := ⟨wn_X5_readNumber, we_X5_readNumber, wi_X5, wc_X5_readNumber, by decide +kernel⟩
theorem yi_X10_isBetween : YS yX10_isBetween RX10 cX10_isBetween 3 (some FieldType.boolean) 3 := ⟨wst_X10_isBetween, wi_X10, wc_X10_isBetween, by decide +kernel⟩
theorem yi_X7_sumOfOdds : YV yX7_sumOfOdds RX7 cX7_sumOfOdds 1 (some FieldType.int) 0 := ⟨wn_X7_sumOfOdds, we_X7_sumOfOdds, wi_X7, wc_X7_sumOfOdds, by decide +kernel⟩
theorem yi_X5_readSemicolon : YV yX5_readSemicolon RX5 cX5_readSemicolon 1 (some FieldType.boolean) 0 := ⟨wn_X5_readSemicolon, we_X5_readSemicolon, wi_X5, wc_X5_readSemicolon, by decide +kernel⟩
theorem yi_X6_isSemicolon : YV yX6_isSemicolon RX6 cX6_isSemicolon 1 (some FieldType.boolean) 0 := ⟨wn_X6_isSemicolon, we_X6_isSemicolon, wi_X6, wc_X6_isSemicolon, by decide +kernel⟩
theorem yi_X5_readStatement : YV yX5_readStatement RX5 cX5_readStatement 1 (some FieldType.boolean) 0 := ⟨wn_X5_readStatement, we_X5_readStatement, wi_X5, wc_X5_readStatement, by decide +kernel⟩
theorem yi_X5_readVillage : YV yX5_readVillage RX5 cX5_readVillage 4 (some FieldType.boolean) 0 := ⟨wn_X5_readVillage, we_X5_readVillage, wi_X5, wc_X5_readVillage, by decide +kernel⟩
theorem yi_X5_readNewName : YV yX5_readNewName RX5 cX5_readNewName 3 (some FieldType.boolean) 0 := ⟨wn_X5_readNewName, we_X5_readNewName, wi_X5, wc_X5_readNewName, by decide +kernel⟩
theorem yi_X6_name : YV yX6_name RX6 cX6_name 1 (some FieldType.int) 0 := ⟨wn_X6_name, we_X6_name, wi_X6, wc_X6_name, by decide +kernel⟩
theorem yi_X1_nameBetween : YV yX1_nameBetween RX1 cX1_nameBetween 6 (some FieldType.int) 2 := ⟨wn_X1_nameBetween, we_X1_nameBetween, wi_X1, wc_X1_nameBetween, by decide +kernel⟩
theorem yi_X9_numberOf : YV yX9_numberOf RX9 cX9_numberOf 2 (some FieldType.int) 1 := ⟨wn_X9_numberOf, we_X9_numberOf, wi_X9, wc_X9_numberOf, by decide +kernel⟩
theorem yi_X10_placeIn : YS yX10_placeIn RX10 cX10_placeIn 4 (some FieldType.int) 3 := ⟨wst_X10_placeIn, wi_X10, wc_X10_placeIn, by decide +kernel⟩
theorem yi_X2_numberOf : YV yX2_numberOf RX2 cX2_numberOf 2 (some FieldType.int) 1 := ⟨wn_X2_numberOf, we_X2_numberOf, wi_X2, wc_X2_numberOf, by decide +kernel⟩
theorem yi_X9_add : YV yX9_add RX9 cX9_add 4 none 3 := ⟨wn_X9_add, we_X9_add, wi_X9, wc_X9_add, by decide +kernel⟩
theorem yi_X5_readFair : YV yX5_readFair RX5 cX5_readFair 6 (some FieldType.boolean) 0 := ⟨wn_X5_readFair, we_X5_readFair, wi_X5, wc_X5_readFair, by decide +kernel⟩
theorem yi_X5_readKnownVillage : YV yX5_readKnownVillage RX5 cX5_readKnownVillage 1 (some FieldType.boolean) 0 := ⟨wn_X5_readKnownVillage, we_X5_readKnownVillage, wi_X5, wc_X5_readKnownVillage, by decide +kernel⟩
theorem yi_X2_add : YV yX2_add RX2 cX2_add 6 none 5 := ⟨wn_X2_add, we_X2_add, wi_X2, wc_X2_add, by decide +kernel⟩
theorem yi_X5_readSay : YV yX5_readSay RX5 cX5_readSay 4 (some FieldType.boolean) 0 := ⟨wn_X5_readSay, we_X5_readSay, wi_X5, wc_X5_readSay, by decide +kernel⟩
theorem yi_X5_weatherOfToken : YV yX5_weatherOfToken RX5 cX5_weatherOfToken 1 (some FieldType.int) 0 := ⟨wn_X5_weatherOfToken, we_X5_weatherOfToken, wi_X5, wc_X5_weatherOfToken, by decide +kernel⟩
theorem yi_X8_refusalToPrint : YV yX8_refusalToPrint RX8 cX8_refusalToPrint 3 (some FieldType.int) 2 := ⟨wn_X8_refusalToPrint, we_X8_refusalToPrint, wi_X8, wc_X8_refusalToPrint, by decide +kernel⟩
theorem yi_X0_placeOf : YV yX0_placeOf RX0 cX0_placeOf 4 (some FieldType.int) 2 := ⟨wn_X0_placeOf, we_X0_placeOf, wi_X0, wc_X0_placeOf, by decide +kernel⟩
theorem yi_X0_add : YV yX0_add RX0 cX0_add 4 none 3 := ⟨wn_X0_add, we_X0_add, wi_X0, wc_X0_add, by decide +kernel⟩
theorem yi_X5_readRetract : YV yX5_readRetract RX5 cX5_readRetract 2 (some FieldType.boolean) 0 := ⟨wn_X5_readRetract, we_X5_readRetract, wi_X5, wc_X5_readRetract, by decide +kernel⟩
theorem yi_X0_hasPage : YV yX0_hasPage RX0 cX0_hasPage 2 (some FieldType.boolean) 1 := ⟨wn_X0_hasPage, we_X0_hasPage, wi_X0, wc_X0_hasPage, by decide +kernel⟩
theorem yi_X0_pages : YV yX0_pages RX0 cX0_pages 1 (some FieldType.int) 0 := ⟨wn_X0_pages, we_X0_pages, wi_X0, wc_X0_pages, by decide +kernel⟩
theorem yi_X8_canPayBackPage : YV yX8_canPayBackPage RX8 cX8_canPayBackPage 2 (some FieldType.boolean) 1 := ⟨wn_X8_canPayBackPage, we_X8_canPayBackPage, wi_X8, wc_X8_canPayBackPage, by decide +kernel⟩
theorem yi_X0_paidForPage : YV yX0_paidForPage RX0 cX0_paidForPage 4 (some FieldType.int) 1 := ⟨wn_X0_paidForPage, we_X0_paidForPage, wi_X0, wc_X0_paidForPage, by decide +kernel⟩
theorem yi_X0_startOf : YV yX0_startOf RX0 cX0_startOf 2 (some FieldType.int) 1 := ⟨wn_X0_startOf, we_X0_startOf, wi_X0, wc_X0_startOf, by decide +kernel⟩
theorem yi_X0_endOf : YV yX0_endOf RX0 cX0_endOf 2 (some FieldType.int) 1 := ⟨wn_X0_endOf, we_X0_endOf, wi_X0, wc_X0_endOf, by decide +kernel⟩
theorem yi_X8_takeBackPage : YV yX8_takeBackPage RX8 cX8_takeBackPage 6 (some FieldType.int) 1 := ⟨wn_X8_takeBackPage, we_X8_takeBackPage, wi_X8, wc_X8_takeBackPage, by decide +kernel⟩
theorem yi_X9_changeTrust : YV yX9_changeTrust RX9 cX9_changeTrust 4 none 2 := ⟨wn_X9_changeTrust, we_X9_changeTrust, wi_X9, wc_X9_changeTrust, by decide +kernel⟩
theorem yi_X9_has : YV yX9_has RX9 cX9_has 2 (some FieldType.boolean) 1 := ⟨wn_X9_has, we_X9_has, wi_X9, wc_X9_has, by decide +kernel⟩
theorem yi_X0_remove : YV yX0_remove RX0 cX0_remove 4 none 2 := ⟨wn_X0_remove, we_X0_remove, wi_X0, wc_X0_remove, by decide +kernel⟩
theorem yi_X8_payBack : YV yX8_payBack RX8 cX8_payBack 2 none 1 := ⟨wn_X8_payBack, we_X8_payBack, wi_X8, wc_X8_payBack, by decide +kernel⟩
theorem yi_X5_readPass : YV yX5_readPass RX5 cX5_readPass 2 (some FieldType.boolean) 0 := ⟨wn_X5_readPass, we_X5_readPass, wi_X5, wc_X5_readPass, by decide +kernel⟩
theorem yi_X8_letDaysPass : YV yX8_letDaysPass RX8 cX8_letDaysPass 4 none 1 := ⟨wn_X8_letDaysPass, we_X8_letDaysPass, wi_X8, wc_X8_letDaysPass, by decide +kernel⟩
theorem yi_X2_isHeld : YV yX2_isHeld RX2 cX2_isHeld 4 (some FieldType.boolean) 2 := ⟨wn_X2_isHeld, we_X2_isHeld, wi_X2, wc_X2_isHeld, by decide +kernel⟩
theorem yi_X8_sellAt : YV yX8_sellAt RX8 cX8_sellAt 7 none 1 := ⟨wn_X8_sellAt, we_X8_sellAt, wi_X8, wc_X8_sellAt, by decide +kernel⟩
theorem yi_X9_wish : YV yX9_wish RX9 cX9_wish 3 (some FieldType.int) 2 := ⟨wn_X9_wish, we_X9_wish, wi_X9, wc_X9_wish, by decide +kernel⟩
theorem yi_X7_draw : YV yX7_draw RX7 cX7_draw 2 (some FieldType.int) 0 := ⟨wn_X7_draw, we_X7_draw, wi_X7, wc_X7_draw, by decide +kernel⟩
theorem yi_X7_seedAfter : YS yX7_seedAfter RX7 cX7_seedAfter 1 (some FieldType.int) 1 := ⟨wst_X7_seedAfter, wi_X7, wc_X7_seedAfter, by decide +kernel⟩
theorem yi_X7_weatherFor : YV yX7_weatherFor RX7 cX7_weatherFor 4 (some FieldType.int) 1 := ⟨wn_X7_weatherFor, we_X7_weatherFor, wi_X7, wc_X7_weatherFor, by decide +kernel⟩
theorem yi_X8_judge : YV yX8_judge RX8 cX8_judge 5 none 2 := ⟨wn_X8_judge, we_X8_judge, wi_X8, wc_X8_judge, by decide +kernel⟩
theorem yi_X4_add : YV yX4_add RX4 cX4_add 3 none 2 := ⟨wn_X4_add, we_X4_add, wi_X4, wc_X4_add, by decide +kernel⟩
theorem yi_X10_labelOf : YS yX10_labelOf RX10 cX10_labelOf 2 (some FieldType.int) 2 := ⟨wst_X10_labelOf, wi_X10, wc_X10_labelOf, by decide +kernel⟩
theorem yi_X7_closeYear : YV yX7_closeYear RX7 cX7_closeYear 4 none 0 := ⟨wn_X7_closeYear, we_X7_closeYear, wi_X7, wc_X7_closeYear, by decide +kernel⟩
theorem yi_X7_firstGreatest : YS yX7_firstGreatest RX7 cX7_firstGreatest 3 (some FieldType.int) 1 := ⟨wst_X7_firstGreatest, wi_X7, wc_X7_firstGreatest, by decide +kernel⟩
theorem yi_X7_lastLeast : YS yX7_lastLeast RX7 cX7_lastLeast 3 (some FieldType.int) 1 := ⟨wst_X7_lastLeast, wi_X7, wc_X7_lastLeast, by decide +kernel⟩
theorem yi_X8_takeFrom : YV yX8_takeFrom RX8 cX8_takeFrom 2 none 1 := ⟨wn_X8_takeFrom, we_X8_takeFrom, wi_X8, wc_X8_takeFrom, by decide +kernel⟩
theorem yi_X9_takeFrom : YV yX9_takeFrom RX9 cX9_takeFrom 2 none 1 := ⟨wn_X9_takeFrom, we_X9_takeFrom, wi_X9, wc_X9_takeFrom, by decide +kernel⟩
theorem yi_X2_takeFrom : YV yX2_takeFrom RX2 cX2_takeFrom 2 none 1 := ⟨wn_X2_takeFrom, we_X2_takeFrom, wi_X2, wc_X2_takeFrom, by decide +kernel⟩
theorem yi_X7_takeFrom : YV yX7_takeFrom RX7 cX7_takeFrom 2 none 1 := ⟨wn_X7_takeFrom, we_X7_takeFrom, wi_X7, wc_X7_takeFrom, by decide +kernel⟩
theorem yi_X0_takeFrom : YV yX0_takeFrom RX0 cX0_takeFrom 2 none 1 := ⟨wn_X0_takeFrom, we_X0_takeFrom, wi_X0, wc_X0_takeFrom, by decide +kernel⟩
theorem yi_X4_takeFrom : YV yX4_takeFrom RX4 cX4_takeFrom 2 none 1 := ⟨wn_X4_takeFrom, we_X4_takeFrom, wi_X4, wc_X4_takeFrom, by decide +kernel⟩
theorem yi_X10_errorCode : YV yX10_errorCode RX10 cX10_errorCode 1 (some FieldType.int) 0 := ⟨wn_X10_errorCode, we_X10_errorCode, wi_X10, wc_X10_errorCode, by decide +kernel⟩
theorem yi_X10_day : YV yX10_day RX10 cX10_day 1 (some FieldType.int) 0 := ⟨wn_X10_day, we_X10_day, wi_X10, wc_X10_day, by decide +kernel⟩
theorem yi_X10_seed : YV yX10_seed RX10 cX10_seed 1 (some FieldType.int) 0 := ⟨wn_X10_seed, we_X10_seed, wi_X10, wc_X10_seed, by decide +kernel⟩
theorem yi_X10_coins : YV yX10_coins RX10 cX10_coins 1 (some FieldType.int) 0 := ⟨wn_X10_coins, we_X10_coins, wi_X10, wc_X10_coins, by decide +kernel⟩
theorem yi_X10_fairCount : YV yX10_fairCount RX10 cX10_fairCount 1 (some FieldType.int) 0 := ⟨wn_X10_fairCount, we_X10_fairCount, wi_X10, wc_X10_fairCount, by decide +kernel⟩
theorem yi_X10_forecastCount : YV yX10_forecastCount RX10 cX10_forecastCount 1 (some FieldType.int) 0 := ⟨wn_X10_forecastCount, we_X10_forecastCount, wi_X10, wc_X10_forecastCount, by decide +kernel⟩
theorem yi_X10_pageCount : YV yX10_pageCount RX10 cX10_pageCount 1 (some FieldType.int) 0 := ⟨wn_X10_pageCount, we_X10_pageCount, wi_X10, wc_X10_pageCount, by decide +kernel⟩
theorem yi_X10_regretCount : YV yX10_regretCount RX10 cX10_regretCount 1 (some FieldType.int) 0 := ⟨wn_X10_regretCount, we_X10_regretCount, wi_X10, wc_X10_regretCount, by decide +kernel⟩
theorem yi_X10_hits : YV yX10_hits RX10 cX10_hits 1 (some FieldType.int) 0 := ⟨wn_X10_hits, we_X10_hits, wi_X10, wc_X10_hits, by decide +kernel⟩
theorem yi_X10_regrets : YV yX10_regrets RX10 cX10_regrets 1 (some FieldType.int) 0 := ⟨wn_X10_regrets, we_X10_regrets, wi_X10, wc_X10_regrets, by decide +kernel⟩
theorem yi_X10_retractions : YV yX10_retractions RX10 cX10_retractions 1 (some FieldType.int) 0 := ⟨wn_X10_retractions, we_X10_retractions, wi_X10, wc_X10_retractions, by decide +kernel⟩
theorem yi_X0_labelAt : YV yX0_labelAt RX0 cX0_labelAt 2 (some FieldType.int) 1 := ⟨wn_X0_labelAt, we_X0_labelAt, wi_X0, wc_X0_labelAt, by decide +kernel⟩
theorem yi_X10_copyDifference : YV yX10_copyDifference RX10 cX10_copyDifference 1 (some FieldType.int) 0 := ⟨wn_X10_copyDifference, we_X10_copyDifference, wi_X10, wc_X10_copyDifference, by decide +kernel⟩
theorem yi_X0_copies : YV yX0_copies RX0 cX0_copies 3 (some FieldType.int) 0 := ⟨wn_X0_copies, we_X0_copies, wi_X0, wc_X0_copies, by decide +kernel⟩
theorem yi_X10_coinDifference : YV yX10_coinDifference RX10 cX10_coinDifference 1 (some FieldType.int) 0 := ⟨wn_X10_coinDifference, we_X10_coinDifference, wi_X10, wc_X10_coinDifference, by decide +kernel⟩
theorem yi_X10_bookErrors : YV yX10_bookErrors RX10 cX10_bookErrors 1 (some FieldType.int) 0 := ⟨wn_X10_bookErrors, we_X10_bookErrors, wi_X10, wc_X10_bookErrors, by decide +kernel⟩
theorem yi_X0_errors : YV yX0_errors RX0 cX0_errors 3 (some FieldType.int) 0 := ⟨wn_X0_errors, we_X0_errors, wi_X0, wc_X0_errors, by decide +kernel⟩
theorem yi_X10_appendInput : YV yX10_appendInput RX10 cX10_appendInput 6 (some FieldType.int) 5 := ⟨wn_X10_appendInput, we_X10_appendInput, wi_X10, wc_X10_appendInput, by decide +kernel⟩
theorem yi_X1_hasRoomFor : YV yX1_hasRoomFor RX1 cX1_hasRoomFor 2 (some FieldType.boolean) 1 := ⟨wn_X1_hasRoomFor, we_X1_hasRoomFor, wi_X1, wc_X1_hasRoomFor, by decide +kernel⟩
theorem yi_X1_putFour : YV yX1_putFour RX1 cX1_putFour 3 none 1 := ⟨wn_X1_putFour, we_X1_putFour, wi_X1, wc_X1_putFour, by decide +kernel⟩
theorem yi_X10_truncateInput : YV yX10_truncateInput RX10 cX10_truncateInput 2 (some FieldType.int) 1 := ⟨wn_X10_truncateInput, we_X10_truncateInput, wi_X10, wc_X10_truncateInput, by decide +kernel⟩
theorem yi_X10_requireRange : YV yX10_requireRange RX10 cX10_requireRange 4 none 3 := ⟨wn_X10_requireRange, we_X10_requireRange, wi_X10, wc_X10_requireRange, by decide +kernel⟩
theorem yi_X10_load : YV yX10_load RX10 cX10_load 3 (some FieldType.int) 0 := ⟨wn_X10_load, we_X10_load, wi_X10, wc_X10_load, by decide +kernel⟩
theorem yi_X8_clear : YV yX8_clear RX8 cX8_clear 2 none 0 := ⟨wn_X8_clear, we_X8_clear, wi_X8, wc_X8_clear, by decide +kernel⟩
theorem yi_X3_remember : YV yX3_remember RX3 cX3_remember 2 none 1 := ⟨wn_X3_remember, we_X3_remember, wi_X3, wc_X3_remember, by decide +kernel⟩
theorem yi_X10_peopleOf : YV yX10_peopleOf RX10 cX10_peopleOf 2 (some FieldType.int) 1 := ⟨wn_X10_peopleOf, we_X10_peopleOf, wi_X10, wc_X10_peopleOf, by decide +kernel⟩
theorem yi_X10_requireVillage : YV yX10_requireVillage RX10 cX10_requireVillage 2 none 1 := ⟨wn_X10_requireVillage, we_X10_requireVillage, wi_X10, wc_X10_requireVillage, by decide +kernel⟩
theorem yi_X10_trustOf : YV yX10_trustOf RX10 cX10_trustOf 2 (some FieldType.int) 1 := ⟨wn_X10_trustOf, we_X10_trustOf, wi_X10, wc_X10_trustOf, by decide +kernel⟩
theorem yi_X10_oddsOf : YV yX10_oddsOf RX10 cX10_oddsOf 2 (some FieldType.int) 1 := ⟨wn_X10_oddsOf, we_X10_oddsOf, wi_X10, wc_X10_oddsOf, by decide +kernel⟩
theorem yi_X10_drawnThisYear : YV yX10_drawnThisYear RX10 cX10_drawnThisYear 2 (some FieldType.int) 1 := ⟨wn_X10_drawnThisYear, we_X10_drawnThisYear, wi_X10, wc_X10_drawnThisYear, by decide +kernel⟩
theorem yi_X10_weatherOf : YV yX10_weatherOf RX10 cX10_weatherOf 3 (some FieldType.int) 2 := ⟨wn_X10_weatherOf, we_X10_weatherOf, wi_X10, wc_X10_weatherOf, by decide +kernel⟩
theorem yi_X10_requireForecast : YV yX10_requireForecast RX10 cX10_requireForecast 4 (some FieldType.int) 2 := ⟨wn_X10_requireForecast, we_X10_requireForecast, wi_X10, wc_X10_requireForecast, by decide +kernel⟩
theorem yi_X10_soldOf : YV yX10_soldOf RX10 cX10_soldOf 3 (some FieldType.int) 2 := ⟨wn_X10_soldOf, we_X10_soldOf, wi_X10, wc_X10_soldOf, by decide +kernel⟩
theorem yi_X10_paidOf : YV yX10_paidOf RX10 cX10_paidOf 3 (some FieldType.int) 2 := ⟨wn_X10_paidOf, we_X10_paidOf, wi_X10, wc_X10_paidOf, by decide +kernel⟩
theorem yi_X10_pageOf : YV yX10_pageOf RX10 cX10_pageOf 3 (some FieldType.int) 2 := ⟨wn_X10_pageOf, we_X10_pageOf, wi_X10, wc_X10_pageOf, by decide +kernel⟩
theorem yi_X10_forecastAt : YV yX10_forecastAt RX10 cX10_forecastAt 2 (some FieldType.int) 1 := ⟨wn_X10_forecastAt, we_X10_forecastAt, wi_X10, wc_X10_forecastAt, by decide +kernel⟩
theorem yi_X10_requirePage : YV yX10_requirePage RX10 cX10_requirePage 2 none 1 := ⟨wn_X10_requirePage, we_X10_requirePage, wi_X10, wc_X10_requirePage, by decide +kernel⟩
theorem yi_X10_regretAt : YV yX10_regretAt RX10 cX10_regretAt 2 (some FieldType.int) 1 := ⟨wn_X10_regretAt, we_X10_regretAt, wi_X10, wc_X10_regretAt, by decide +kernel⟩
theorem yi_X10_print : YV yX10_print RX10 cX10_print 4 (some FieldType.int) 3 := ⟨wn_X10_print, we_X10_print, wi_X10, wc_X10_print, by decide +kernel⟩
theorem yi_X10_retract : YV yX10_retract RX10 cX10_retract 2 (some FieldType.int) 1 := ⟨wn_X10_retract, we_X10_retract, wi_X10, wc_X10_retract, by decide +kernel⟩
theorem yi_X10_setTrust : YV yX10_setTrust RX10 cX10_setTrust 4 (some FieldType.int) 2 := ⟨wn_X10_setTrust, we_X10_setTrust, wi_X10, wc_X10_setTrust, by decide +kernel⟩
theorem yi_X10_setPeople : YV yX10_setPeople RX10 cX10_setPeople 4 (some FieldType.int) 2 := ⟨wn_X10_setPeople, we_X10_setPeople, wi_X10, wc_X10_setPeople, by decide +kernel⟩
theorem yi_X10_setOdds : YV yX10_setOdds RX10 cX10_setOdds 4 (some FieldType.int) 2 := ⟨wn_X10_setOdds, we_X10_setOdds, wi_X10, wc_X10_setOdds, by decide +kernel⟩
theorem yi_X10_pass : YV yX10_pass RX10 cX10_pass 3 (some FieldType.int) 1 := ⟨wn_X10_pass, we_X10_pass, wi_X10, wc_X10_pass, by decide +kernel⟩
theorem nmax_nI {a b : Nat} (ha : a < 2 ^ 31) (hb : b < 2 ^ 31) : (if nI a < nI b then nI b else nI a) = nI (max a b) := by
  by_cases h : a < b
  · rw [if_pos ((nI_ltI ha hb).mpr h), Nat.max_eq_right (by omega)]
  · rw [if_neg (fun c => h ((nI_ltI ha hb).mp c)), Nat.max_eq_left (by omega)]
theorem nmin_nI {a b : Nat} (ha : a < 2 ^ 31) (hb : b < 2 ^ 31) : (if nI b < nI a then nI b else nI a) = nI (min a b) := by
  by_cases h : b < a
  · rw [if_pos ((nI_ltI hb ha).mpr h), Nat.min_eq_right (by omega)]
  · rw [if_neg (fun c => h ((nI_ltI hb ha).mp c)), Nat.min_eq_left (by omega)]
end

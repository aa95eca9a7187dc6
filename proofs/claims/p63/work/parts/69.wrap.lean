/-- the law's two cells for answers -/
abbrev LC (G : gT) (f : Nat → Int64) : va_E := .inl (gc G 4, 1, .inr (.inl f))
abbrev DC (G : gT) (f : Nat → UInt64) : va_E := .inl (gc G 5, 1, .inr (.inr (.inr (.inl f))))
def wP {S SY A : Type} (kd : SY → Int32) (post : A → S → Prop) (py : SY → Prop) : Int32 → (A × S) ⊕ SY → Prop := fun r u => match u with
  | .inl u => r = 0 ∧ post u.1 u.2
  | .inr u => py u ∧ r = kd u
def wW {S SY : Type} (G : gT) (ol : Nat) (f0 : Nat → Int64) (W1 : S → va_W) (WY : SY → va_W) : (Int32 × S) ⊕ SY → va_W := fun u => match u with
  | .inl u => (ol, LC G (vp_updL f0 0 u.1.toInt64)) :: W1 u.2
  | .inr u => (ol, LC G f0) :: WY u
def wWb {S SY : Type} (G : gT) (ol : Nat) (f0 : Nat → Int64) (W1 : S → va_W) (WY : SY → va_W) : (Int32 × S) ⊕ SY → va_W := fun u => match u with
  | .inl u => (ol, LC G (vp_updL f0 0 (if u.1 = 0 then 0 else 1))) :: W1 u.2
  | .inr u => (ol, LC G f0) :: WY u
def wWd {S SY : Type} (G : gT) (ol : Nat) (f0 : Nat → UInt64) (W1 : S → va_W) (WY : SY → va_W) : (UInt64 × S) ⊕ SY → va_W := fun u => match u with
  | .inl u => (ol, DC G (vf_upd f0 0 u.1)) :: W1 u.2
  | .inr u => (ol, DC G f0) :: WY u
section CONST
variable {S SX : Type} {l : Launch} {y : MethodName} {cc : ByteArray} {maxL : Nat} {rm : Room} {av : List Value} {G : gT} {W0 : va_W} {W1 : S → va_W} {W2 : SX → va_W} {px : SX → Prop} {EX : SX → String}
theorem consT_i {ret : Option FieldType} (c : Nat × va_E) {post : Int32 → S → Prop} (hM : TI l y cc maxL ret rm av G W0 post W1 px EX W2) : TI l y cc maxL ret rm av G (c :: W0) post (fun u => c :: W1 u) px EX (fun u => c :: W2 u) := frt_i (wr := [c]) hM (List.perm_append_singleton c W0).symm (fun u => List.perm_append_singleton c (W1 u)) (fun u => List.perm_append_singleton c (W2 u))
end CONST


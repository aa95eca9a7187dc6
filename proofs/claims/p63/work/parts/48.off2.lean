theorem perm_sw {α : Type} (c : α) (P Q : List α) : (c :: (P ++ Q)).Perm ((Q ++ P) ++ [c]) := (List.perm_append_comm.cons c).trans (List.perm_append_singleton c (Q ++ P)).symm
/-- the bytes that writeForecast puts -/
def b_fc (S : CT) (pl vi dy : Nat) (q : RT × Nat) : RT × Nat := w_put (if S 12 pl = 0 then 115 else if S 12 pl = 1 then 114 else 116) (b_dec dy (b_nam (S 0 vi) q))

/-! ===== an array's length ===== -/
set_option maxRecDepth 100000 in
theorem oL_of {ρ : Type} {X : Option ρ} {u : Mm} {a n : Nat} (h : mK u a = (10, n)) : oL u a X = X := by unfold oL; rw [h]; exact if_pos (Or.inl rfl)
set_option maxRecDepth 100000 in
theorem oL_of11 {ρ : Type} {X : Option ρ} {u : Mm} {a n : Nat} (h : mK u a = (11, n)) : oL u a X = X := by unfold oL; rw [h]; exact if_pos (Or.inr rfl)

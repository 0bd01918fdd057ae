theorem sgn_lt (o : Nat) : sgn o < 128 := by
  unfold sgn
  rcases Nat.lt_or_ge o 10 with q | q
  · have : ∀ k, k < 10 → ([126, 45, 60, 62, 38, 124, 94, 43, 45, 42] : List Nat).getD k 0 < 128 := by decide
    exact this o q
  · rw [List.getD_eq_getElem?_getD, List.getElem?_eq_none (by simpa using q)]; decide
theorem deB_1 {p : Prop} (h : ¬ (deB p).toNat = 0) : p := by
  apply Classical.byContradiction
  intro q
  rw [deB_f q] at h
  exact h rfl
theorem deB_0 {p : Prop} (h : (deB p).toNat = 0) : ¬ p := by
  intro q
  rw [deB_t q] at h
  exact absurd h (by decide)

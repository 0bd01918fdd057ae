/-! the questions and measures of a function, as the class answers them -/
abbrev fX : Int64 := -81985529216486896
def msR (f : Int64) (k : Nat) (r : Int32) : Prop := match k with
  | 0 => r = nI 16 - lbc (dfF f fX) | 1 => r = ibc (nI (imF f 65535)) | 2 => r = lbc (f ^^^ fX) | 3 => r = ibc (nI (itF f 16)) | _ => ∃ n, r = nI n ∧ isStp f n
noncomputable def isR (f : Int64) (k : Nat) : Bool := match k with
  | 0 => linB f | 1 => risB f | 2 => deB (afN f f 16 = f) | _ => lowB f
theorem in_or {x : Int32} (n : Nat) : (∃ k, k ≤ n ∧ x = nI k) ∨ (x.toInt < 0 ∨ (n : Int) < x.toInt) := by
  by_cases h : 0 ≤ x.toInt ∧ x.toInt ≤ n
  · exact Or.inl (nI_of_int h.1 h.2)
  · exact Or.inr (by omega)
theorem in_4 (x : Int32) : x = nI 0 ∨ x = nI 1 ∨ x = nI 2 ∨ x = nI 3 ∨ x = nI 4 ∨ (x.toInt < 0 ∨ 4 < x.toInt) := by
  rcases in_or (x := x) 4 with ⟨k, hk, rfl⟩ | h
  · rcases (show k = 0 ∨ k = 1 ∨ k = 2 ∨ k = 3 ∨ k = 4 by omega) with rfl | rfl | rfl | rfl | rfl <;> simp
  · exact Or.inr (Or.inr (Or.inr (Or.inr (Or.inr h))))
theorem in_3 (x : Int32) : x = nI 0 ∨ x = nI 1 ∨ x = nI 2 ∨ x = nI 3 ∨ (x.toInt < 0 ∨ 3 < x.toInt) := by
  rcases in_or (x := x) 3 with ⟨k, hk, rfl⟩ | h
  · rcases (show k = 0 ∨ k = 1 ∨ k = 2 ∨ k = 3 by omega) with rfl | rfl | rfl | rfl <;> simp
  · exact Or.inr (Or.inr (Or.inr (Or.inr h)))

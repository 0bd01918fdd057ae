def apB (tb : Nat → Nat) (tl : Nat) (x : Int32) : Nat → (Nat → Nat)
  | 0 => tb
  | k + 1 => va_up (apB tb tl x k) (tl + k) (byN x (24 - 8 * k))
theorem apB_s {tb : Nat → Nat} {tl k : Nat} {x : Int32} (h : k ≤ 3) : apB tb tl x (k + 1) = va_up (apB tb tl x k) (tl + k) (byN x (24 - 8 * k)) := rfl
theorem ap_dec {k : Nat} (h : k ≤ 3) : nI (24 - 8 * k) + Int32.ofInt (-8) = nI 24 - nI (8 * (k + 1)) := by
  rcases (show k = 0 ∨ k = 1 ∨ k = 2 ∨ k = 3 by omega) with rfl | rfl | rfl | rfl <;> decide

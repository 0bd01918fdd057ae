theorem sq_end {p : Nat → Nat} {al cs : Nat → Bool} {b : Nat} : ∀ n, (sq p al cs b (b + 1 + n)).2 = (sq p al cs b (b + 1)).2
  | 0 => rfl
  | n + 1 => by
    rw [show b + 1 + (n + 1) = (b + 1 + n) + 1 by omega, sq_out (by omega)]
    exact sq_end n
theorem sq_8 {p : Nat → Nat} {al cs : Nat → Bool} {b : Nat} (h : b ≤ 6) : (sq p al cs b (b + 1)).2 = (sq p al cs b 8).2 := by
  rw [show 8 = b + 1 + (7 - b) by omega, sq_end]
theorem nI_of_int {x : Int32} {n : Nat} (h1 : 0 ≤ x.toInt) (h2 : x.toInt ≤ n) : ∃ k, k ≤ n ∧ x = nI k := by
  refine ⟨x.toInt.toNat, by omega, ?_⟩
  apply Int32.toInt_inj.mp
  have h3 : x.toInt < 2 ^ 31 := Int32.toInt_lt x
  rw [nI_toInt (by omega)]
  omega
theorem in_nI {x : Int32} {n : Nat} (hn : n < 2 ^ 31) (h : ¬ (inB x (nI 0) (nI n)).toNat = 0) : ∃ k, k ≤ n ∧ x = nI k := by
  have h1 := in_1 h
  rw [nI_toInt (by decide), nI_toInt hn] at h1
  exact nI_of_int (by omega) h1.2
theorem in_no {x : Int32} {n : Nat} (hn : n < 2 ^ 31) (h : (inB x (nI 0) (nI n)).toNat = 0) : x.toInt < 0 ∨ (n : Int) < x.toInt := by
  have h1 := in_0 h
  rw [nI_toInt (by decide), nI_toInt hn] at h1
  omega

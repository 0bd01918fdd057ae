def opL (b : Int32) : Nat → Nat → Int32
  | 0, _ => -1
  | n + 1, lo => if b = nI (sgn (lo + n)) then nI (lo + n) else opL b n lo
theorem opL_1 {b : Int32} {n lo : Nat} (h : b = nI (sgn (lo + n))) : opL b (n + 1) lo = nI (lo + n) := if_pos h
theorem opL_0 {b : Int32} {n lo : Nat} (h : ¬ b = nI (sgn (lo + n))) : opL b (n + 1) lo = opL b n lo := if_neg h
theorem opL_4 (b : Int32) : opL b 4 0 = opS b 4 0 := by
  by_cases h0 : b = nI (sgn 0)
  · subst h0; decide
  by_cases h1 : b = nI (sgn 1)
  · subst h1; decide
  by_cases h2 : b = nI (sgn 2)
  · subst h2; decide
  by_cases h3 : b = nI (sgn 3)
  · subst h3; decide
  rw [opL_0 h3, opL_0 h2, opL_0 h1, opL_0 h0, opS_0 h0, opS_0 h1, opS_0 h2, opS_0 h3]
  rfl
theorem opL_6 (b : Int32) : opL b 6 4 = opS b 6 4 := by
  by_cases h0 : b = nI (sgn 4)
  · subst h0; decide
  by_cases h1 : b = nI (sgn 5)
  · subst h1; decide
  by_cases h2 : b = nI (sgn 6)
  · subst h2; decide
  by_cases h3 : b = nI (sgn 7)
  · subst h3; decide
  by_cases h4 : b = nI (sgn 8)
  · subst h4; decide
  by_cases h5 : b = nI (sgn 9)
  · subst h5; decide
  rw [opL_0 h5, opL_0 h4, opL_0 h3, opL_0 h2, opL_0 h1, opL_0 h0, opS_0 h0, opS_0 h1, opS_0 h2, opS_0 h3, opS_0 h4, opS_0 h5]
  rfl
theorem op_40 : opS (nI 40) 4 0 = -1 := by decide
theorem dg_m1 : (dgt (-1)).toNat = 0 := by decide
theorem by_s (x : Int32) {sh : Nat} (h : sh ≤ 24) : i_shr x (nI sh) &&& nI 255 = nI (byN x sh) := by
  apply Int32.toBitVec_inj.1
  apply BitVec.eq_of_toNat_eq
  have h0 : (i_shr x (nI sh)).toInt = x.toInt >>> sh := pk_shr x _ sh (ni_sl sh (by omega))
  rw [Int32.toBitVec_and, BitVec.toNat_and, pk_tn (n := 255) (by decide), pk_tn (n := byN x sh) (by have := byN_lt x sh; omega), show (255 : Nat) = 2 ^ 8 - 1 from rfl, Nat.and_two_pow_sub_one_eq_mod]
  unfold byN
  have e1 : ((i_shr x (nI sh)).toBitVec.toNat : Int) = (i_shr x (nI sh)).toInt % 2 ^ 32 := by
    show ((i_shr x (nI sh)).toBitVec.toNat : Int) = (i_shr x (nI sh)).toBitVec.toInt % 2 ^ 32
    rw [BitVec.toInt_eq_toNat_cond]
    have := (i_shr x (nI sh)).toBitVec.isLt
    split <;> omega
  have e2 : (x.toBitVec.toNat : Int) = x.toInt % 2 ^ 32 := by
    show (x.toBitVec.toNat : Int) = x.toBitVec.toInt % 2 ^ 32
    rw [BitVec.toInt_eq_toNat_cond]
    have := x.toBitVec.isLt
    split <;> omega
  rw [h0, Int.shiftRight_eq_div_pow] at e1
  generalize x.toInt = z at e1 e2
  generalize x.toBitVec.toNat = u at e2
  generalize (i_shr x (nI sh)).toBitVec.toNat = v at e1
  have hsh : sh = 0 ∨ sh = 1 ∨ sh = 2 ∨ sh = 3 ∨ sh = 4 ∨ sh = 5 ∨ sh = 6 ∨ sh = 7 ∨ sh = 8 ∨ sh = 9 ∨ sh = 10 ∨ sh = 11 ∨ sh = 12 ∨ sh = 13 ∨ sh = 14 ∨ sh = 15 ∨ sh = 16 ∨ sh = 17 ∨ sh = 18 ∨ sh = 19 ∨ sh = 20 ∨ sh = 21 ∨ sh = 22 ∨ sh = 23 ∨ sh = 24 := by omega
  rcases hsh with h | h | h | h | h | h | h | h | h | h | h | h | h | h | h | h | h | h | h | h | h | h | h | h | h <;> subst h <;> simp only [Nat.reducePow, Int.reducePow] at e1 e2 ⊢ <;> omega

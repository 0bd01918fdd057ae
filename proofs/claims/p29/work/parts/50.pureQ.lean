/-! the sum of the costs -/
def suT (st : Nat → Nat) : Nat → Nat | 0 => 0 | c + 1 => suT st c + c * (st (c + 1) - st c)
theorem suT_le {st : Nat → Nat} (hm : ∀ i j, i ≤ j → j ≤ 7 → st i ≤ st j) : ∀ c, c ≤ 7 → suT st c ≤ 6 * (st c - st 0)
  | 0, _ => Nat.zero_le _
  | c + 1, h => by
    have h1 := suT_le hm c (by omega)
    have h2 := hm c (c + 1) (by omega) h
    have h3 := hm 0 c (by omega) (by omega)
    have h4 : c * (st (c + 1) - st c) ≤ 6 * (st (c + 1) - st c) := Nat.mul_le_mul_right _ (by omega)
    show suT st c + c * (st (c + 1) - st c) ≤ _
    omega
theorem su_T {st : Nat → Nat} (hm : ∀ i j, i ≤ j → j ≤ 7 → st i ≤ st j) (h7 : st 7 ≤ 2000) : ∀ c, c ≤ 7 → suN st c = nI (suT st c)
  | 0, _ => rfl
  | c + 1, h => by
    have h2 := hm c (c + 1) (by omega) h
    show suN st c + nI c * (nI (st (c + 1)) - nI (st c)) = nI (suT st c + c * (st (c + 1) - st c))
    rw [su_T hm h7 c (by omega), pk_sub h2, pk_mul, nI_add]
theorem suT_7 {st : Nat → Nat} (hm : ∀ i j, i ≤ j → j ≤ 7 → st i ≤ st j) (h7 : st 7 ≤ 2000) : suT st 7 ≤ 12000 := by
  have h1 := suT_le hm 7 (Nat.le_refl _)
  omega
/-- what a reading answers, and the last formula behind it -/
def rdR (tb : Nat → Nat) (tl : Nat) (lf : Int64) (r : Int32) (lf2 : Int64) : Prop := (∃ f, rdF tb tl = .inl f ∧ r = -1 ∧ lf2 = f) ∨ (∃ e, rdF tb tl = .inr e ∧ r = nI e ∧ lf2 = lf)
theorem rd_u {tb : Nat → Nat} {tl : Nat} {lf : Int64} {r : Int32} {w : va_W} (W : Int32 → Int32 → Int64 → va_W) (h : ∃ pl2 er2, (∃ f, rdF tb tl = .inl f ∧ r = -1 ∧ w = W pl2 er2 f) ∨ (∃ e, rdF tb tl = .inr e ∧ r = nI e ∧ w = W pl2 er2 lf)) : ∃ pl2 er2 lf2, w = W pl2 er2 lf2 ∧ rdR tb tl lf r lf2 := by
  obtain ⟨pl2, er2, ⟨f, h1, h2, h3⟩ | ⟨e, h1, h2, h3⟩⟩ := h
  · exact ⟨pl2, er2, f, h3, Or.inl ⟨f, h1, h2, rfl⟩⟩
  · exact ⟨pl2, er2, lf, h3, Or.inr ⟨e, h1, h2, rfl⟩⟩
theorem rdR_eq {tb : Nat → Nat} {tl : Nat} {lf : Int64} {r r' : Int32} {a b : Int64} (h : rdR tb tl lf r a) (h' : rdR tb tl lf r' b) : r = r' ∧ a = b := by
  rcases h with ⟨f, h1, rfl, rfl⟩ | ⟨f, h1, rfl, rfl⟩ <;> rcases h' with ⟨g, g1, rfl, rfl⟩ | ⟨g, g1, rfl, rfl⟩ <;> rw [h1] at g1
  · cases g1; exact ⟨rfl, rfl⟩
  · cases g1
  · cases g1
  · cases g1; exact ⟨rfl, rfl⟩

/-! the search's sequence: the starts, and the entries, ahead of the cost c -/
noncomputable def sq (p : Nat → Nat) (al cs : Nat → Bool) (b : Nat) : Nat → (Nat → Nat) × List Ent
  | 0 => (fun _ => 0, [])
  | c + 1 => (va_up (sq p al cs b c).1 c (sq p al cs b c).2.length, if c ≤ b then mkC p al cs (va_up (sq p al cs b c).1 c (sq p al cs b c).2.length) c (sq p al cs b c).2 else (sq p al cs b c).2)
theorem sq_in {p : Nat → Nat} {al cs : Nat → Bool} {b c : Nat} (h : c ≤ b) : (sq p al cs b (c + 1)).2 = mkC p al cs (sq p al cs b (c + 1)).1 c (sq p al cs b c).2 := if_pos h
theorem sq_out {p : Nat → Nat} {al cs : Nat → Bool} {b c : Nat} (h : ¬ c ≤ b) : (sq p al cs b (c + 1)).2 = (sq p al cs b c).2 := if_neg h
theorem sq_len {p : Nat → Nat} {al cs : Nat → Bool} {b : Nat} : ∀ c, (sq p al cs b c).2.length ≤ 2000
  | 0 => Nat.zero_le _
  | c + 1 => by
    by_cases h : c ≤ b
    · rw [sq_in h]; exact (mkC_len (sq_len c)).2
    · rw [sq_out h]; exact sq_len c
theorem sq_grow {p : Nat → Nat} {al cs : Nat → Bool} {b c : Nat} : (sq p al cs b c).2.length ≤ (sq p al cs b (c + 1)).2.length := by
  by_cases h : c ≤ b
  · rw [sq_in h]; exact (mkC_len (sq_len c)).1
  · rw [sq_out h]; exact Nat.le_refl _
theorem sq_st {p : Nat → Nat} {al cs : Nat → Bool} {b c : Nat} : (sq p al cs b (c + 1)).1 c = (sq p al cs b c).2.length := va_up_self _ _ _
theorem sq_st_ne {p : Nat → Nat} {al cs : Nat → Bool} {b c j : Nat} (h : j ≠ c) : (sq p al cs b (c + 1)).1 j = (sq p al cs b c).1 j := va_up_ne _ _ h
theorem sq_mono {p : Nat → Nat} {al cs : Nat → Bool} {b : Nat} : ∀ c, (∀ j, j < c → (sq p al cs b c).1 j ≤ (sq p al cs b c).2.length) ∧ ∀ i j, i ≤ j → j < c → (sq p al cs b c).1 i ≤ (sq p al cs b c).1 j
  | 0 => ⟨fun j h => absurd h (Nat.not_lt_zero j), fun i j _ h => absurd h (Nat.not_lt_zero j)⟩
  | c + 1 => by
    have ih := sq_mono (p := p) (al := al) (cs := cs) (b := b) c
    have hg := sq_grow (p := p) (al := al) (cs := cs) (b := b) (c := c)
    refine ⟨fun j hj => ?_, fun i j hij hj => ?_⟩
    · by_cases q : j = c
      · subst q; rw [sq_st]; exact hg
      · rw [sq_st_ne q]; exact Nat.le_trans (ih.1 j (by omega)) hg
    · by_cases q : j = c
      · subst q
        rw [sq_st]
        by_cases q2 : i = j
        · subst q2; rw [sq_st]; exact Nat.le_refl _
        · rw [sq_st_ne q2]; exact ih.1 i (by omega)
      · rw [sq_st_ne q, sq_st_ne (show i ≠ c by omega)]; exact ih.2 i j hij (by omega)
theorem sq_ok {p : Nat → Nat} {al cs : Nat → Bool} {b c : Nat} {tF : Nat → Int32} (hc : c ≤ 7) (ht : ∀ j, j < c → tF j = nI ((sq p al cs b c).1 j)) : stOk (sq p al cs b (c + 1)).1 (upd tF c (nI (sq p al cs b c).2.length)) c (sq p al cs b c).2.length := by
  have ih := sq_mono (p := p) (al := al) (cs := cs) (b := b) c
  refine ⟨hc, fun j hj => ?_, fun j hj => ?_, fun i j hij hj => ?_⟩
  · by_cases q : j = c
    · subst q; rw [pk_us, sq_st]
    · rw [pk_un q, sq_st_ne q]; exact ht j (by omega)
  · by_cases q : j = c
    · subst q; rw [sq_st]; exact Nat.le_refl _
    · rw [sq_st_ne q]; exact ih.1 j (by omega)
  · by_cases q : j = c
    · subst q
      rw [sq_st]
      by_cases q2 : i = j
      · subst q2; rw [sq_st]; exact Nat.le_refl _
      · rw [sq_st_ne q2]; exact ih.1 i (by omega)
    · rw [sq_st_ne q, sq_st_ne (show i ≠ c by omega)]; exact ih.2 i j hij (by omega)
theorem row_none {fF : Nat → Int64} {oF aF bF sF : Nat → Int32} (h : ∀ k, k < 4096 → sF k = -1) : rowOk [] fF oF aF bF sF := ⟨r_none, h_none h, fun i j hi => absurd hi (Nat.not_lt_zero i), Nat.zero_le _⟩
/-! what is read off a row -/
def fstI (P : Nat → Prop) (n : Nat) (r : Int32) : Prop := (∃ i, i < n ∧ r = nI i ∧ P i ∧ ∀ j, j < i → ¬ P j) ∨ (r = -1 ∧ ∀ j, j < n → ¬ P j)
theorem fstI_eq {P P' : Nat → Prop} {n : Nat} {r r' : Int32} (h : fstI P n r) (h' : fstI P' n r') (hP : ∀ j, j < n → (P j ↔ P' j)) : r = r' := by
  rcases h with ⟨i, h1, h2, h3, h4⟩ | ⟨h1, h2⟩ <;> rcases h' with ⟨i', g1, g2, g3, g4⟩ | ⟨g1, g2⟩
  · rcases Nat.lt_trichotomy i i' with q | q | q
    · exact absurd ((hP i h1).mp h3) (g4 i q)
    · rw [h2, g2, q]
    · exact absurd ((hP i' g1).mpr g3) (h4 i' q)
  · exact absurd ((hP i h1).mp h3) (g2 i h1)
  · exact absurd ((hP i' g1).mpr g3) (h2 i' g1)
  · rw [h1, g1]
def nrN (d : Nat → Int32) : Nat → Int32 × Int32
  | 0 => (-1, nI 17)
  | i + 1 => if (d i).toInt < (nrN d i).2.toInt then (nI i, d i) else nrN d i
theorem nrN_1 {d : Nat → Int32} {i : Nat} (h : (d i).toInt < (nrN d i).2.toInt) : nrN d (i + 1) = (nI i, d i) := if_pos h
theorem nrN_0 {d : Nat → Int32} {i : Nat} (h : (nrN d i).2.toInt ≤ (d i).toInt) : nrN d (i + 1) = nrN d i := if_neg (by omega)
/-- the starts tell the costs -/
def coOk (es : List Ent) (st : Nat → Nat) : Prop := (∀ i, i < es.length → eC es i ≤ 6 ∧ st (eC es i) ≤ i ∧ (eC es i < 6 → i < st (eC es i + 1))) ∧ ∀ i j, i ≤ j → j ≤ 7 → st i ≤ st j
def suN (st : Nat → Nat) : Nat → Int32 | 0 => nI 0 | c + 1 => suN st c + nI c * (nI (st (c + 1)) - nI (st c))
def dg1 (d x : Int64) : Int64 := d * 31 + x
def dgE (es : List Ent) (d : Int64) : Nat → Int64
  | 0 => d
  | i + 1 => dg1 (dg1 (dg1 (dg1 (dg1 (dgE es d i) (eF es i)) (lN (eC es i))) (Int32.toInt64 (eO es i))) (Int32.toInt64 (eA es i))) (Int32.toInt64 (eB es i))

/-! the search, as both sides go through it -/
theorem addE_len {f : Int64} {c : Nat} {o a b : Int32} {es : List Ent} (h : es.length ≤ 2000) : es.length ≤ (addE f c o a b es).length ∧ (addE f c o a b es).length ≤ 2000 := by
  rcases addE_cases f c o a b es with ⟨-, q⟩ | ⟨q1, -, q⟩ <;> rw [q]
  · exact ⟨Nat.le_refl _, h⟩
  · rw [len_app]; omega
theorem addE_nd {f : Int64} {c : Nat} {o a b : Int32} {es : List Ent} (h : ndE es) : ndE (addE f c o a b es) := by
  rcases addE_cases f c o a b es with ⟨-, q⟩ | ⟨-, q2, q⟩ <;> rw [q]
  · exact h
  · exact nd_app h q2
noncomputable def oneN (op c : Nat) : Nat → Nat → List Ent → List Ent
  | 0, _, es => es
  | n + 1, i, es => oneN op c n (i + 1) (addE (maF op (eF es i) 0) c (nI op) (nI i) (-1) es)
theorem oneN_full {op c : Nat} : ∀ {n i : Nat} {es : List Ent}, es.length = 2000 → oneN op c n i es = es
  | 0, _, _, _ => rfl
  | n + 1, i, es, h => by
    show oneN op c n (i + 1) (addE _ c _ _ _ es) = es
    rw [addE_old (Or.inl h)]
    exact oneN_full h
noncomputable def twoJ (op c i : Nat) : Nat → Nat → List Ent → List Ent
  | 0, _, es => es
  | n + 1, j, es => twoJ op c i n (j + 1) (addE (maF op (eF es i) (eF es j)) c (nI op) (nI i) (nI j) es)
theorem twoJ_full {op c i : Nat} : ∀ {n j : Nat} {es : List Ent}, es.length = 2000 → twoJ op c i n j es = es
  | 0, _, _, _ => rfl
  | n + 1, j, es, h => by
    show twoJ op c i n (j + 1) (addE _ c _ _ _ es) = es
    rw [addE_old (Or.inl h)]
    exact twoJ_full h
noncomputable def twoI (op c lo hi : Nat) : Nat → Nat → List Ent → List Ent
  | 0, _, es => es
  | n + 1, i, es => twoI op c lo hi n (i + 1) (twoJ op c i (hi - lo) lo es)
theorem twoI_full {op c lo hi : Nat} : ∀ {n i : Nat} {es : List Ent}, es.length = 2000 → twoI op c lo hi n i es = es
  | 0, _, _, _ => rfl
  | n + 1, i, es, h => by
    show twoI op c lo hi n (i + 1) (twoJ op c i (hi - lo) lo es) = es
    rw [twoJ_full h]
    exact twoI_full h
noncomputable def twoA (op c : Nat) (st : Nat → Nat) (le : Nat) : Nat → Nat → List Ent → List Ent
  | 0, _, es => es
  | n + 1, a, es => twoA op c st le n (a + 1) (twoI op c (st (le - a)) (st (le - a + 1)) (st (a + 1) - st a) (st a) es)
noncomputable def coN (cs : Nat → Bool) (c : Nat) : Nat → Nat → List Ent → List Ent
  | 0, _, es => es
  | n + 1, v, es => coN cs c n (v + 1) (if cs v = true then addE (kF v) c (-2) (nI v) (-1) es else es)
noncomputable def opN (p : Nat → Nat) (al : Nat → Bool) (st : Nat → Nat) (c op : Nat) (es : List Ent) : List Ent :=
  if al op = true ∧ p op ≤ c then (if 4 ≤ op then twoA op c st (c - p op) (c - p op + 1) 0 es else oneN op c (st (c - p op + 1) - st (c - p op)) (st (c - p op)) es) else es
noncomputable def opsN (p : Nat → Nat) (al : Nat → Bool) (st : Nat → Nat) (c : Nat) : Nat → Nat → List Ent → List Ent
  | 0, _, es => es
  | n + 1, op, es => opsN p al st c n (op + 1) (opN p al st c op es)
noncomputable def mk0 (c : Nat) (es : List Ent) : List Ent := if c = 0 then addE (-81985529216486896) 0 (-1) (-1) (-1) es else es
noncomputable def mk1 (p : Nat → Nat) (cs : Nat → Bool) (c : Nat) (es : List Ent) : List Ent := if c = p 10 then coN cs c 16 0 es else es
noncomputable def mkC (p : Nat → Nat) (al cs : Nat → Bool) (st : Nat → Nat) (c : Nat) (es : List Ent) : List Ent := opsN p al st c 10 0 (mk1 p cs c (mk0 c es))
/-! what is said of a row's world -/
def rowOk (es : List Ent) (fF : Nat → Int64) (oF aF bF sF : Nat → Int32) : Prop := rOk es fF oF aF bF ∧ hOk es sF ∧ ndE es ∧ es.length ≤ 2000
def hsB (x : Int32) (n : Nat) : Bool := decide (0 ≤ x.toInt ∧ x.toInt < n)
theorem hs_t {x : Int32} {n : Nat} (h1 : 0 ≤ x.toInt) (h2 : x.toInt < n) : hsB x n = true := decide_eq_true ⟨h1, h2⟩
theorem hs_f {x : Int32} {n : Nat} (h : x.toInt < 0 ∨ (n : Int) ≤ x.toInt) : hsB x n = false := decide_eq_false (fun q => by omega)
theorem hs_1 {x : Int32} {n : Nat} (h : ¬ (hsB x n).toNat = 0) : ∃ i, i < n ∧ x = nI i := by
  by_cases q : 0 ≤ x.toInt ∧ x.toInt < n
  · refine ⟨x.toInt.toNat, by omega, ?_⟩
    apply Int32.toInt_inj.mp
    have h1 : x.toInt < 2 ^ 31 := Int32.toInt_lt x
    rw [nI_toInt (by omega)]
    omega
  · exact absurd (by rw [hs_f (by omega)]; rfl) h
theorem hs_0 {x : Int32} {n : Nat} (h : (hsB x n).toNat = 0) : x.toInt < 0 ∨ (n : Int) ≤ x.toInt := by
  by_cases q : 0 ≤ x.toInt ∧ x.toInt < n
  · rw [hs_t q.1 q.2] at h; exact absurd h (by decide)
  · omega
theorem hs_nI {i n : Nat} (h : i < n) (hn : n < 2 ^ 31) : hsB (nI i) n = true := hs_t (by rw [nI_toInt (by omega)]; omega) (by rw [nI_toInt (by omega)]; omega)
def flB (n : Nat) : Bool := decide (2000 ≤ n)
theorem fl_t {n : Nat} (h : 2000 ≤ n) : flB n = true := decide_eq_true h
theorem fl_f {n : Nat} (h : n < 2000) : flB n = false := decide_eq_false (by omega)
theorem fl_1 {n : Nat} (h : ¬ (flB n).toNat = 0) : 2000 ≤ n := by
  rcases Nat.lt_or_ge n 2000 with q | q
  · exact absurd (by rw [fl_f q]; rfl) h
  · exact q
theorem fl_0 {n : Nat} (h : (flB n).toNat = 0) : n < 2000 := by
  rcases Nat.lt_or_ge n 2000 with q | q
  · exact q
  · rw [fl_t q] at h; exact absurd h (by decide)
theorem lg_0 {x y : Int64} (h : (lg_cmp x y).toInt = 0) : x = y := by
  unfold lg_cmp at h
  split at h
  · exact absurd h (by decide)
  · split at h
    · assumption
    · exact absurd h (by decide)
theorem lg_1 {x y : Int64} (h : ¬ (lg_cmp x y).toInt = 0) : ¬ x = y := by
  rintro rfl
  apply h
  unfold lg_cmp
  rw [if_neg (by intro q; have q2 : x < x := q; rw [Int64.lt_iff_toInt_lt] at q2; omega), if_pos rfl]
  rfl

/-! the search, as both sides go through it -/
theorem addE_len {f : Int64} {c : Nat} {o a b : Int32} {es : List Ent} (h : es.length ≤ 2000) : es.length ≤ (addE f c o a b es).length ∧ (addE f c o a b es).length ≤ 2000 := by
  rcases addE_cases f c o a b es with ⟨-, q⟩ | ⟨q1, -, q⟩ <;> rw [q]
  · exact ⟨Nat.le_refl _, h⟩
  · rw [len_app]; omega
theorem addE_nd {f : Int64} {c : Nat} {o a b : Int32} {es : List Ent} (h : ndE es) : ndE (addE f c o a b es) := by
  rcases addE_cases f c o a b es with ⟨-, q⟩ | ⟨-, q2, q⟩ <;> rw [q]
  · exact h
  · exact nd_app h q2
noncomputable def oneN (op c : Nat) : Nat → Nat → List Ent → List Ent
  | 0, _, es => es
  | n + 1, i, es => oneN op c n (i + 1) (addE (maF op (eF es i) 0) c (nI op) (nI i) (-1) es)
theorem oneN_full {op c : Nat} : ∀ {n i : Nat} {es : List Ent}, es.length = 2000 → oneN op c n i es = es
  | 0, _, _, _ => rfl
  | n + 1, i, es, h => by
    show oneN op c n (i + 1) (addE _ c _ _ _ es) = es
    rw [addE_old (Or.inl h)]
    exact oneN_full h
noncomputable def twoJ (op c i : Nat) : Nat → Nat → List Ent → List Ent
  | 0, _, es => es
  | n + 1, j, es => twoJ op c i n (j + 1) (addE (maF op (eF es i) (eF es j)) c (nI op) (nI i) (nI j) es)
theorem twoJ_full {op c i : Nat} : ∀ {n j : Nat} {es : List Ent}, es.length = 2000 → twoJ op c i n j es = es
  | 0, _, _, _ => rfl
  | n + 1, j, es, h => by
    show twoJ op c i n (j + 1) (addE _ c _ _ _ es) = es
    rw [addE_old (Or.inl h)]
    exact twoJ_full h
noncomputable def twoI (op c lo hi : Nat) : Nat → Nat → List Ent → List Ent
  | 0, _, es => es
  | n + 1, i, es => twoI op c lo hi n (i + 1) (twoJ op c i (hi - lo) lo es)
theorem twoI_full {op c lo hi : Nat} : ∀ {n i : Nat} {es : List Ent}, es.length = 2000 → twoI op c lo hi n i es = es
  | 0, _, _, _ => rfl
  | n + 1, i, es, h => by
    show twoI op c lo hi n (i + 1) (twoJ op c i (hi - lo) lo es) = es
    rw [twoJ_full h]
    exact twoI_full h
noncomputable def twoA (op c : Nat) (st : Nat → Nat) (le : Nat) : Nat → Nat → List Ent → List Ent
  | 0, _, es => es
  | n + 1, a, es => twoA op c st le n (a + 1) (twoI op c (st (le - a)) (st (le - a + 1)) (st (a + 1) - st a) (st a) es)
noncomputable def coN (cs : Nat → Bool) (c : Nat) : Nat → Nat → List Ent → List Ent
  | 0, _, es => es
  | n + 1, v, es => coN cs c n (v + 1) (if cs v = true then addE (kF v) c (-2) (nI v) (-1) es else es)
noncomputable def opN (p : Nat → Nat) (al : Nat → Bool) (st : Nat → Nat) (c op : Nat) (es : List Ent) : List Ent :=
  if al op = true ∧ p op ≤ c then (if 4 ≤ op then twoA op c st (c - p op) (c - p op + 1) 0 es else oneN op c (st (c - p op + 1) - st (c - p op)) (st (c - p op)) es) else es
noncomputable def opsN (p : Nat → Nat) (al : Nat → Bool) (st : Nat → Nat) (c : Nat) : Nat → Nat → List Ent → List Ent
  | 0, _, es => es
  | n + 1, op, es => opsN p al st c n (op + 1) (opN p al st c op es)
noncomputable def mk0 (c : Nat) (es : List Ent) : List Ent := if c = 0 then addE (-81985529216486896) 0 (-1) (-1) (-1) es else es
noncomputable def mk1 (p : Nat → Nat) (cs : Nat → Bool) (c : Nat) (es : List Ent) : List Ent := if c = p 10 then coN cs c 16 0 es else es
noncomputable def mkC (p : Nat → Nat) (al cs : Nat → Bool) (st : Nat → Nat) (c : Nat) (es : List Ent) : List Ent := opsN p al st c 10 0 (mk1 p cs c (mk0 c es))
/-! what is said of a row's world -/
def rowOk (es : List Ent) (fF : Nat → Int64) (oF aF bF sF : Nat → Int32) : Prop := rOk es fF oF aF bF ∧ hOk es sF ∧ ndE es ∧ es.length ≤ 2000
def hsB (x : Int32) (n : Nat) : Bool := decide (0 ≤ x.toInt ∧ x.toInt < n)
theorem hs_t {x : Int32} {n : Nat} (h1 : 0 ≤ x.toInt) (h2 : x.toInt < n) : hsB x n = true := decide_eq_true ⟨h1, h2⟩
theorem hs_f {x : Int32} {n : Nat} (h : x.toInt < 0 ∨ (n : Int) ≤ x.toInt) : hsB x n = false := decide_eq_false (fun q => by omega)
theorem hs_1 {x : Int32} {n : Nat} (h : ¬ (hsB x n).toNat = 0) : ∃ i, i < n ∧ x = nI i := by
  by_cases q : 0 ≤ x.toInt ∧ x.toInt < n
  · refine ⟨x.toInt.toNat, by omega, ?_⟩
    apply Int32.toInt_inj.mp
    have h1 : x.toInt < 2 ^ 31 := Int32.toInt_lt x
    rw [nI_toInt (by omega)]
    omega
  · exact absurd (by rw [hs_f (by omega)]; rfl) h
theorem hs_0 {x : Int32} {n : Nat} (h : (hsB x n).toNat = 0) : x.toInt < 0 ∨ (n : Int) ≤ x.toInt := by
  by_cases q : 0 ≤ x.toInt ∧ x.toInt < n
  · rw [hs_t q.1 q.2] at h; exact absurd h (by decide)
  · omega
theorem hs_nI {i n : Nat} (h : i < n) (hn : n < 2 ^ 31) : hsB (nI i) n = true := hs_t (by rw [nI_toInt (by omega)]; omega) (by rw [nI_toInt (by omega)]; omega)
def flB (n : Nat) : Bool := decide (2000 ≤ n)
theorem fl_t {n : Nat} (h : 2000 ≤ n) : flB n = true := decide_eq_true h
theorem fl_f {n : Nat} (h : n < 2000) : flB n = false := decide_eq_false (by omega)
theorem fl_1 {n : Nat} (h : ¬ (flB n).toNat = 0) : 2000 ≤ n := by
  rcases Nat.lt_or_ge n 2000 with q | q
  · exact absurd (by rw [fl_f q]; rfl) h
  · exact q
theorem fl_0 {n : Nat} (h : (flB n).toNat = 0) : n < 2000 := by
  rcases Nat.lt_or_ge n 2000 with q | q
  · exact q
  · rw [fl_t q] at h; exact absurd h (by decide)
theorem lg_0 {x y : Int64} (h : (lg_cmp x y).toInt = 0) : x = y := by
  unfold lg_cmp at h
  split at h
  · exact absurd h (by decide)
  · split at h
    · assumption
    · exact absurd h (by decide)
theorem lg_1 {x y : Int64} (h : ¬ (lg_cmp x y).toInt = 0) : ¬ x = y := by
  rintro rfl
  apply h
  unfold lg_cmp
  rw [if_neg (by intro q; have q2 : x < x := q; rw [Int64.lt_iff_toInt_lt] at q2; omega), if_pos rfl]
  rfl
theorem oneN_len {op c : Nat} : ∀ {n i : Nat} {es : List Ent}, es.length ≤ 2000 → es.length ≤ (oneN op c n i es).length ∧ (oneN op c n i es).length ≤ 2000
  | 0, _, _, h => ⟨Nat.le_refl _, h⟩
  | n + 1, i, es, h => by
    have h1 := addE_len (f := maF op (eF es i) 0) (c := c) (o := nI op) (a := nI i) (b := -1) h
    have h2 := oneN_len (op := op) (c := c) (n := n) (i := i + 1) h1.2
    exact ⟨Nat.le_trans h1.1 h2.1, h2.2⟩
theorem twoJ_len {op c i : Nat} : ∀ {n j : Nat} {es : List Ent}, es.length ≤ 2000 → es.length ≤ (twoJ op c i n j es).length ∧ (twoJ op c i n j es).length ≤ 2000
  | 0, _, _, h => ⟨Nat.le_refl _, h⟩
  | n + 1, j, es, h => by
    have h1 := addE_len (f := maF op (eF es i) (eF es j)) (c := c) (o := nI op) (a := nI i) (b := nI j) h
    have h2 := twoJ_len (op := op) (c := c) (i := i) (n := n) (j := j + 1) h1.2
    exact ⟨Nat.le_trans h1.1 h2.1, h2.2⟩
theorem twoI_len {op c lo hi : Nat} : ∀ {n i : Nat} {es : List Ent}, es.length ≤ 2000 → es.length ≤ (twoI op c lo hi n i es).length ∧ (twoI op c lo hi n i es).length ≤ 2000
  | 0, _, _, h => ⟨Nat.le_refl _, h⟩
  | n + 1, i, es, h => by
    have h1 := twoJ_len (op := op) (c := c) (i := i) (n := hi - lo) (j := lo) h
    have h2 := twoI_len (op := op) (c := c) (lo := lo) (hi := hi) (n := n) (i := i + 1) h1.2
    exact ⟨Nat.le_trans h1.1 h2.1, h2.2⟩
theorem twoA_len {op c le : Nat} {st : Nat → Nat} : ∀ {n a : Nat} {es : List Ent}, es.length ≤ 2000 → es.length ≤ (twoA op c st le n a es).length ∧ (twoA op c st le n a es).length ≤ 2000
  | 0, _, _, h => ⟨Nat.le_refl _, h⟩
  | n + 1, a, es, h => by
    have h1 := twoI_len (op := op) (c := c) (lo := st (le - a)) (hi := st (le - a + 1)) (n := st (a + 1) - st a) (i := st a) h
    have h2 := twoA_len (op := op) (c := c) (st := st) (le := le) (n := n) (a := a + 1) h1.2
    exact ⟨Nat.le_trans h1.1 h2.1, h2.2⟩
theorem coN_len {cs : Nat → Bool} {c : Nat} : ∀ {n v : Nat} {es : List Ent}, es.length ≤ 2000 → es.length ≤ (coN cs c n v es).length ∧ (coN cs c n v es).length ≤ 2000
  | 0, _, _, h => ⟨Nat.le_refl _, h⟩
  | n + 1, v, es, h => by
    have h1 : es.length ≤ (if cs v = true then addE (kF v) c (-2) (nI v) (-1) es else es).length ∧ (if cs v = true then addE (kF v) c (-2) (nI v) (-1) es else es).length ≤ 2000 := by
      split
      · exact addE_len h
      · exact ⟨Nat.le_refl _, h⟩
    have h2 := coN_len (cs := cs) (c := c) (n := n) (v := v + 1) h1.2
    exact ⟨Nat.le_trans h1.1 h2.1, h2.2⟩
theorem opN_len {p : Nat → Nat} {al : Nat → Bool} {st : Nat → Nat} {c op : Nat} {es : List Ent} (h : es.length ≤ 2000) : es.length ≤ (opN p al st c op es).length ∧ (opN p al st c op es).length ≤ 2000 := by
  unfold opN
  split
  · split
    · exact twoA_len h
    · exact oneN_len h
  · exact ⟨Nat.le_refl _, h⟩
theorem opsN_len {p : Nat → Nat} {al : Nat → Bool} {st : Nat → Nat} {c : Nat} : ∀ {n op : Nat} {es : List Ent}, es.length ≤ 2000 → es.length ≤ (opsN p al st c n op es).length ∧ (opsN p al st c n op es).length ≤ 2000
  | 0, _, _, h => ⟨Nat.le_refl _, h⟩
  | n + 1, op, es, h => by
    have h1 := opN_len (p := p) (al := al) (st := st) (c := c) (op := op) h
    have h2 := opsN_len (p := p) (al := al) (st := st) (c := c) (n := n) (op := op + 1) h1.2
    exact ⟨Nat.le_trans h1.1 h2.1, h2.2⟩
theorem mk0_len {c : Nat} {es : List Ent} (h : es.length ≤ 2000) : es.length ≤ (mk0 c es).length ∧ (mk0 c es).length ≤ 2000 := by
  unfold mk0
  split
  · exact addE_len h
  · exact ⟨Nat.le_refl _, h⟩
theorem mk1_len {p : Nat → Nat} {cs : Nat → Bool} {c : Nat} {es : List Ent} (h : es.length ≤ 2000) : es.length ≤ (mk1 p cs c es).length ∧ (mk1 p cs c es).length ≤ 2000 := by
  unfold mk1
  split
  · exact coN_len h
  · exact ⟨Nat.le_refl _, h⟩
theorem mkC_len {p : Nat → Nat} {al cs : Nat → Bool} {st : Nat → Nat} {c : Nat} {es : List Ent} (h : es.length ≤ 2000) : es.length ≤ (mkC p al cs st c es).length ∧ (mkC p al cs st c es).length ≤ 2000 := by
  have h1 := mk0_len (c := c) h
  have h2 := mk1_len (p := p) (cs := cs) (c := c) h1.2
  have h3 := opsN_len (p := p) (al := al) (st := st) (c := c) (n := 10) (op := 0) h2.2
  exact ⟨Nat.le_trans h1.1 (Nat.le_trans h2.1 h3.1), h3.2⟩
/-- the starts of the costs up to cm, in a row of n entries -/
def stOk (st : Nat → Nat) (tF : Nat → Int32) (cm n : Nat) : Prop := cm ≤ 7 ∧ (∀ j, j ≤ cm → tF j = nI (st j)) ∧ (∀ j, j ≤ cm → st j ≤ n) ∧ ∀ i j, i ≤ j → j ≤ cm → st i ≤ st j
theorem stOk.len {st : Nat → Nat} {tF : Nat → Int32} {cm n n' : Nat} (h : stOk st tF cm n) (hn : n ≤ n') : stOk st tF cm n' := ⟨h.1, h.2.1, fun j hj => Nat.le_trans (h.2.2.1 j hj) hn, h.2.2.2⟩
theorem opN_no {p : Nat → Nat} {al : Nat → Bool} {st : Nat → Nat} {c op : Nat} {es : List Ent} (h : ¬ (al op = true ∧ p op ≤ c)) : opN p al st c op es = es := if_neg h
theorem opN_two {p : Nat → Nat} {al : Nat → Bool} {st : Nat → Nat} {c op : Nat} {es : List Ent} (h : al op = true ∧ p op ≤ c) (h2 : 4 ≤ op) : opN p al st c op es = twoA op c st (c - p op) (c - p op + 1) 0 es := by unfold opN; rw [if_pos h, if_pos h2]
theorem opN_one {p : Nat → Nat} {al : Nat → Bool} {st : Nat → Nat} {c op : Nat} {es : List Ent} (h : al op = true ∧ p op ≤ c) (h2 : ¬ 4 ≤ op) : opN p al st c op es = oneN op c (st (c - p op + 1) - st (c - p op)) (st (c - p op)) es := by unfold opN; rw [if_pos h, if_neg h2]
theorem b_t {b : Bool} (h : ¬ b.toNat = 0) : b = true := by cases b; exact absurd rfl h; rfl
theorem b_f {b : Bool} (h : b.toNat = 0) : ¬ b = true := by cases b; decide; exact absurd h (by decide)
/-- a row of numbers as an array holds it -/
def zN (p : Nat → Nat) : Nat → Int32 := fun i => nI (p i)

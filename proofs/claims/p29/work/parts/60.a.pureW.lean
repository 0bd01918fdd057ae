/-! rows that grow: what is there stays, and what could be made is there -/
def preE (es es2 : List Ent) : Prop := es.length ≤ es2.length ∧ ∀ i, i < es.length → es2.getD i ent0 = es.getD i ent0
theorem pre_rf {es : List Ent} : preE es es := ⟨Nat.le_refl _, fun _ _ => rfl⟩
theorem pre_tr {a b c : List Ent} (h1 : preE a b) (h2 : preE b c) : preE a c := ⟨Nat.le_trans h1.1 h2.1, fun i hi => (h2.2 i (Nat.lt_of_lt_of_le hi h1.1)).trans (h1.2 i hi)⟩
theorem pre_F {a b : List Ent} (h : preE a b) {i : Nat} (hi : i < a.length) : eF b i = eF a i := by unfold eF; rw [h.2 i hi]
theorem pre_C {a b : List Ent} (h : preE a b) {i : Nat} (hi : i < a.length) : eC b i = eC a i := by unfold eC; rw [h.2 i hi]
theorem pre_in {a b : List Ent} (h : preE a b) {f : Int64} (hf : inE a f) : inE b f := by
  obtain ⟨i, hi, e⟩ := hf
  exact ⟨i, Nat.lt_of_lt_of_le hi h.1, (pre_F h hi).trans e⟩
theorem pre_add (f : Int64) (c : Nat) (o a b : Int32) (es : List Ent) : preE es (addE f c o a b es) := by
  rcases addE_cases f c o a b es with ⟨-, q⟩ | ⟨-, -, q⟩ <;> rw [q]
  · exact pre_rf
  · exact ⟨by rw [len_app]; omega, fun i hi => ge_old hi⟩
theorem in_add {f : Int64} {c : Nat} {o a b : Int32} {es : List Ent} (h : (addE f c o a b es).length < 2000) : inE (addE f c o a b es) f := by
  rcases addE_cases f c o a b es with ⟨q1, q⟩ | ⟨-, -, q⟩
  · rw [q] at h ⊢
    rcases q1 with q1 | q1
    · omega
    · exact q1
  · rw [q]
    exact ⟨es.length, by rw [len_app]; omega, by unfold eF; rw [ge_new]⟩
theorem one_pre {op c : Nat} : ∀ (n i : Nat) (es : List Ent), preE es (oneN op c n i es)
  | 0, _, _ => pre_rf
  | n + 1, i, es => pre_tr (pre_add (maF op (eF es i) 0) c (nI op) (nI i) (-1) es) (one_pre n (i + 1) (addE (maF op (eF es i) 0) c (nI op) (nI i) (-1) es))
theorem one_in {op c : Nat} : ∀ (n i : Nat) (es : List Ent), (oneN op c n i es).length < 2000 → i + n ≤ es.length → ∀ x, i ≤ x → x < i + n → inE (oneN op c n i es) (maF op (eF es x) 0)
  | 0, i, es, _, _, x, h1, h2 => absurd h2 (by omega)
  | n + 1, i, es, hl, hi, x, h1, h2 => by
    have hp := pre_add (maF op (eF es i) 0) c (nI op) (nI i) (-1) es
    have hq := one_pre (op := op) (c := c) n (i + 1) (addE (maF op (eF es i) 0) c (nI op) (nI i) (-1) es)
    have hl1 : (oneN op c n (i + 1) (addE (maF op (eF es i) 0) c (nI op) (nI i) (-1) es)).length < 2000 := hl
    show inE (oneN op c n (i + 1) (addE (maF op (eF es i) 0) c (nI op) (nI i) (-1) es)) (maF op (eF es x) 0)
    by_cases z : x = i
    · rw [z]
      exact pre_in hq (in_add (Nat.lt_of_le_of_lt hq.1 hl1))
    · have h3 := one_in (op := op) (c := c) n (i + 1) (addE (maF op (eF es i) 0) c (nI op) (nI i) (-1) es) hl1 (by have := hp.1; omega) x (by omega) (by omega)
      have hx : x < es.length := by omega
      rw [pre_F hp hx] at h3
      exact h3
theorem twj_pre {op c i : Nat} : ∀ (n j : Nat) (es : List Ent), preE es (twoJ op c i n j es)
  | 0, _, _ => pre_rf
  | n + 1, j, es => pre_tr (pre_add (maF op (eF es i) (eF es j)) c (nI op) (nI i) (nI j) es) (twj_pre n (j + 1) (addE (maF op (eF es i) (eF es j)) c (nI op) (nI i) (nI j) es))
theorem twj_in {op c i : Nat} : ∀ (n j : Nat) (es : List Ent), (twoJ op c i n j es).length < 2000 → i < es.length → j + n ≤ es.length → ∀ y, j ≤ y → y < j + n → inE (twoJ op c i n j es) (maF op (eF es i) (eF es y))
  | 0, j, es, _, _, _, y, h1, h2 => absurd h2 (by omega)
  | n + 1, j, es, hl, hi, hj, y, h1, h2 => by
    have hp := pre_add (maF op (eF es i) (eF es j)) c (nI op) (nI i) (nI j) es
    have hq := twj_pre (op := op) (c := c) (i := i) n (j + 1) (addE (maF op (eF es i) (eF es j)) c (nI op) (nI i) (nI j) es)
    have hl1 : (twoJ op c i n (j + 1) (addE (maF op (eF es i) (eF es j)) c (nI op) (nI i) (nI j) es)).length < 2000 := hl
    show inE (twoJ op c i n (j + 1) (addE (maF op (eF es i) (eF es j)) c (nI op) (nI i) (nI j) es)) (maF op (eF es i) (eF es y))
    by_cases z : y = j
    · rw [z]
      exact pre_in hq (in_add (Nat.lt_of_le_of_lt hq.1 hl1))
    · have h3 := twj_in (op := op) (c := c) (i := i) n (j + 1) (addE (maF op (eF es i) (eF es j)) c (nI op) (nI i) (nI j) es) hl1 (by have := hp.1; omega) (by have := hp.1; omega) y (by omega) (by omega)
      have hy : y < es.length := by omega
      have e1 := pre_F hp hi
      have e2 := pre_F hp hy
      rw [e1, e2] at h3
      exact h3
theorem twi_pre {op c lo hi : Nat} : ∀ (n i : Nat) (es : List Ent), preE es (twoI op c lo hi n i es)
  | 0, _, _ => pre_rf
  | n + 1, i, es => pre_tr (twj_pre (op := op) (c := c) (i := i) (hi - lo) lo es) (twi_pre n (i + 1) (twoJ op c i (hi - lo) lo es))
theorem twi_in {op c lo hi : Nat} : ∀ (n i : Nat) (es : List Ent), (twoI op c lo hi n i es).length < 2000 → i + n ≤ es.length → hi ≤ es.length → ∀ x y, i ≤ x → x < i + n → lo ≤ y → y < hi → inE (twoI op c lo hi n i es) (maF op (eF es x) (eF es y))
  | 0, i, es, _, _, _, x, y, h1, h2, _, _ => absurd h2 (by omega)
  | n + 1, i, es, hl, hi1, hh, x, y, h1, h2, h3, h4 => by
    have hp := twj_pre (op := op) (c := c) (i := i) (hi - lo) lo es
    have hq := twi_pre (op := op) (c := c) (lo := lo) (hi := hi) n (i + 1) (twoJ op c i (hi - lo) lo es)
    have hl1 : (twoI op c lo hi n (i + 1) (twoJ op c i (hi - lo) lo es)).length < 2000 := hl
    show inE (twoI op c lo hi n (i + 1) (twoJ op c i (hi - lo) lo es)) (maF op (eF es x) (eF es y))
    by_cases z : x = i
    · rw [z]
      exact pre_in hq (twj_in (hi - lo) lo es (Nat.lt_of_le_of_lt hq.1 hl1) (by omega) (by omega) y h3 (by omega))
    · have h5 := twi_in (op := op) (c := c) (lo := lo) (hi := hi) n (i + 1) (twoJ op c i (hi - lo) lo es) hl1 (by have := hp.1; omega) (by have := hp.1; omega) x y (by omega) (by omega) h3 h4
      have hx : x < es.length := by omega
      have hy : y < es.length := by omega
      have e1 := pre_F hp hx
      have e2 := pre_F hp hy
      rw [e1, e2] at h5
      exact h5
theorem twa_pre {op c le : Nat} {st : Nat → Nat} : ∀ (n a : Nat) (es : List Ent), preE es (twoA op c st le n a es)
  | 0, _, _ => pre_rf
  | n + 1, a, es => pre_tr (twi_pre (op := op) (c := c) (lo := st (le - a)) (hi := st (le - a + 1)) (st (a + 1) - st a) (st a) es) (twa_pre n (a + 1) (twoI op c (st (le - a)) (st (le - a + 1)) (st (a + 1) - st a) (st a) es))
theorem twa_in {op c le : Nat} {st : Nat → Nat} : ∀ (n a : Nat) (es : List Ent), (twoA op c st le n a es).length < 2000 → n + a ≤ le + 1 → (∀ j, j ≤ le + 1 → st j ≤ es.length) → ∀ k x y, a ≤ k → k < a + n → st k ≤ x → x < st (k + 1) → st (le - k) ≤ y → y < st (le - k + 1) → inE (twoA op c st le n a es) (maF op (eF es x) (eF es y))
  | 0, a, es, _, _, _, k, x, y, h1, h2, _, _, _, _ => absurd h2 (by omega)
  | n + 1, a, es, hl, hn, hs, k, x, y, h1, h2, h3, h4, h5, h6 => by
    have hp := twi_pre (op := op) (c := c) (lo := st (le - a)) (hi := st (le - a + 1)) (st (a + 1) - st a) (st a) es
    have hq := twa_pre (op := op) (c := c) (le := le) (st := st) n (a + 1) (twoI op c (st (le - a)) (st (le - a + 1)) (st (a + 1) - st a) (st a) es)
    have hl1 : (twoA op c st le n (a + 1) (twoI op c (st (le - a)) (st (le - a + 1)) (st (a + 1) - st a) (st a) es)).length < 2000 := hl
    show inE (twoA op c st le n (a + 1) (twoI op c (st (le - a)) (st (le - a + 1)) (st (a + 1) - st a) (st a) es)) (maF op (eF es x) (eF es y))
    have s1 := hs (k + 1) (by omega)
    have s2 := hs (le - k + 1) (by omega)
    by_cases z : k = a
    · subst z
      exact pre_in hq (twi_in (op := op) (c := c) (lo := st (le - k)) (hi := st (le - k + 1)) (st (k + 1) - st k) (st k) es (Nat.lt_of_le_of_lt hq.1 hl1) (by omega) s2 x y h3 (by omega) h5 h6)
    · have h7 := twa_in (op := op) (c := c) (le := le) (st := st) n (a + 1) (twoI op c (st (le - a)) (st (le - a + 1)) (st (a + 1) - st a) (st a) es) hl1 (by omega) (fun j hj => Nat.le_trans (hs j hj) hp.1) k x y (by omega) (by omega) h3 h4 h5 h6
      have hx : x < es.length := by omega
      have hy : y < es.length := by omega
      have e1 := pre_F hp hx
      have e2 := pre_F hp hy
      rw [e1, e2] at h7
      exact h7
theorem co_pre {cs : Nat → Bool} {c : Nat} : ∀ (n v : Nat) (es : List Ent), preE es (coN cs c n v es)
  | 0, _, _ => pre_rf
  | n + 1, v, es => by
    show preE es (coN cs c n (v + 1) (if cs v = true then addE (kF v) c (-2) (nI v) (-1) es else es))
    refine pre_tr ?_ (co_pre n (v + 1) _)
    split
    · exact pre_add _ _ _ _ _ es
    · exact pre_rf
theorem co_in {cs : Nat → Bool} {c : Nat} : ∀ (n v : Nat) (es : List Ent), (coN cs c n v es).length < 2000 → ∀ u, v ≤ u → u < v + n → cs u = true → inE (coN cs c n v es) (kF u)
  | 0, v, es, _, u, h1, h2, _ => absurd h2 (by omega)
  | n + 1, v, es, hl, u, h1, h2, h3 => by
    have hl1 : (coN cs c n (v + 1) (if cs v = true then addE (kF v) c (-2) (nI v) (-1) es else es)).length < 2000 := hl
    show inE (coN cs c n (v + 1) (if cs v = true then addE (kF v) c (-2) (nI v) (-1) es else es)) (kF u)
    by_cases z : u = v
    · subst z
      rw [if_pos h3] at hl1 ⊢
      have hq := co_pre (cs := cs) (c := c) n (u + 1) (addE (kF u) c (-2) (nI u) (-1) es)
      exact pre_in hq (in_add (Nat.lt_of_le_of_lt hq.1 hl1))
    · exact co_in n (v + 1) _ hl1 u (by omega) (by omega) h3
theorem op_pre {p : Nat → Nat} {al : Nat → Bool} {st : Nat → Nat} {c op : Nat} (es : List Ent) : preE es (opN p al st c op es) := by
  by_cases q : al op = true ∧ p op ≤ c
  · by_cases q2 : 4 ≤ op
    · rw [opN_two q q2]; exact twa_pre _ _ _
    · rw [opN_one q q2]; exact one_pre _ _ _
  · rw [opN_no q]; exact pre_rf
theorem ops_pre {p : Nat → Nat} {al : Nat → Bool} {st : Nat → Nat} {c : Nat} : ∀ (n op : Nat) (es : List Ent), preE es (opsN p al st c n op es)
  | 0, _, _ => pre_rf
  | n + 1, op, es => pre_tr (op_pre es) (ops_pre n (op + 1) (opN p al st c op es))
theorem mk0_pre {c : Nat} (es : List Ent) : preE es (mk0 c es) := by
  unfold mk0
  split
  · exact pre_add _ _ _ _ _ es
  · exact pre_rf
theorem mk1_pre {p : Nat → Nat} {cs : Nat → Bool} {c : Nat} (es : List Ent) : preE es (mk1 p cs c es) := by
  unfold mk1
  split
  · exact co_pre _ _ es
  · exact pre_rf
theorem mkC_pre {p : Nat → Nat} {al cs : Nat → Bool} {st : Nat → Nat} {c : Nat} (es : List Ent) : preE es (mkC p al cs st c es) :=
  pre_tr (mk0_pre es) (pre_tr (mk1_pre _) (ops_pre 10 0 _))
theorem sq_pre {p : Nat → Nat} {al cs : Nat → Bool} {b c : Nat} : preE (sq p al cs b c).2 (sq p al cs b (c + 1)).2 := by
  by_cases h : c ≤ b
  · rw [sq_in h]; exact mkC_pre _
  · rw [sq_out h]; exact pre_rf
theorem sq_pre_le {p : Nat → Nat} {al cs : Nat → Bool} {b c : Nat} : ∀ d, preE (sq p al cs b c).2 (sq p al cs b (c + d)).2
  | 0 => pre_rf
  | d + 1 => pre_tr (sq_pre_le d) (sq_pre (c := c + d))
theorem sq_preL {p : Nat → Nat} {al cs : Nat → Bool} {b c d : Nat} (h : c ≤ d) : preE (sq p al cs b c).2 (sq p al cs b d).2 := by
  obtain ⟨k, rfl⟩ : ∃ k, d = c + k := ⟨d - c, by omega⟩
  exact sq_pre_le k
/-- what can be made at the cost c out of the entries of es -/
def mdE (p : Nat → Nat) (al cs : Nat → Bool) (c : Nat) (es : List Ent) (f : Int64) : Prop :=
  (c = 0 ∧ f = fX) ∨ (c = p 10 ∧ ∃ v, v < 16 ∧ cs v = true ∧ f = kF v) ∨
  (∃ op x, op < 4 ∧ al op = true ∧ x < es.length ∧ eC es x + p op = c ∧ f = maF op (eF es x) 0) ∨
  (∃ op x y, 4 ≤ op ∧ op < 10 ∧ al op = true ∧ x < es.length ∧ y < es.length ∧ eC es x + eC es y + p op = c ∧ f = maF op (eF es x) (eF es y))
theorem ops_in {p : Nat → Nat} {al : Nat → Bool} {st : Nat → Nat} {c : Nat} {es0 : List Ent} {k : Nat} {f : Int64} (hk : ∀ es1, preE es0 es1 → (opN p al st c k es1).length < 2000 → inE (opN p al st c k es1) f) : ∀ (n op : Nat) (es : List Ent), preE es0 es → (opsN p al st c n op es).length < 2000 → op ≤ k → k < op + n → inE (opsN p al st c n op es) f
  | 0, op, es, _, _, h1, h2 => absurd h2 (by omega)
  | n + 1, op, es, h0, hl, h1, h2 => by
    have hl1 : (opsN p al st c n (op + 1) (opN p al st c op es)).length < 2000 := hl
    have hq := ops_pre (p := p) (al := al) (st := st) (c := c) n (op + 1) (opN p al st c op es)
    show inE (opsN p al st c n (op + 1) (opN p al st c op es)) f
    by_cases z : k = op
    · rw [← z] at hq hl1 ⊢
      exact pre_in hq (hk es h0 (Nat.lt_of_le_of_lt hq.1 hl1))
    · exact ops_in hk n (op + 1) _ (pre_tr h0 (op_pre es)) hl1 (by omega) (by omega)
/-- where the entries of a cost stand -/
def atE (es : List Ent) (st : Nat → Nat) (c : Nat) : Prop := (∀ j, j ≤ c → st j ≤ es.length) ∧ ∀ x, x < es.length → eC es x < c ∧ st (eC es x) ≤ x ∧ x < st (eC es x + 1)
theorem mk_all {p : Nat → Nat} {al cs : Nat → Bool} {st : Nat → Nat} {c : Nat} {es : List Ent} {f : Int64} (hp : ∀ k, k < 10 → 1 ≤ p k) (hs : atE es st c) (hl : (mkC p al cs st c es).length < 2000) (h : mdE p al cs c es f) : inE (mkC p al cs st c es) f := by
  have h0 := mk0_pre (c := c) es
  have h1 := mk1_pre (p := p) (cs := cs) (c := c) (mk0 c es)
  have h2 := ops_pre (p := p) (al := al) (st := st) (c := c) 10 0 (mk1 p cs c (mk0 c es))
  have hl2 : (opsN p al st c 10 0 (mk1 p cs c (mk0 c es))).length < 2000 := hl
  show inE (opsN p al st c 10 0 (mk1 p cs c (mk0 c es))) f
  have hl1 : (mk1 p cs c (mk0 c es)).length < 2000 := Nat.lt_of_le_of_lt h2.1 hl2
  rcases h with ⟨rfl, rfl⟩ | ⟨hc, v, hv, hcv, rfl⟩ | ⟨op, x, ho, ha, hx, hc, rfl⟩ | ⟨op, x, y, ho, ho2, ha, hx, hy, hc, rfl⟩
  · refine pre_in (pre_tr h1 h2) ?_
    have hl0 : (mk0 0 es).length < 2000 := Nat.lt_of_le_of_lt h1.1 hl1
    have e : mk0 0 es = addE fX 0 (-1) (-1) (-1) es := if_pos rfl
    rw [e] at hl0 ⊢
    exact in_add hl0
  · refine pre_in h2 ?_
    have e : mk1 p cs c (mk0 c es) = coN cs c 16 0 (mk0 c es) := if_pos hc
    rw [e] at hl1 ⊢
    exact co_in 16 0 _ hl1 v (by omega) (by omega) hcv
  · have hpo := hp op (by omega)
    obtain ⟨a1, a2, a3⟩ := hs.2 x hx
    refine ops_in (es0 := es) (k := op) (fun es1 g1 g2 => ?_) 10 0 _ (pre_tr h0 h1) hl2 (by omega) (by omega)
    rw [opN_one ⟨ha, by omega⟩ (by omega), show c - p op = eC es x by omega] at g2 ⊢
    have s1 := hs.1 (eC es x + 1) (by omega)
    have h5 := one_in (op := op) (c := c) (st (eC es x + 1) - st (eC es x)) (st (eC es x)) es1 g2 (by have := g1.1; omega) x a2 (by omega)
    rw [pre_F g1 hx] at h5
    exact h5
  · have hpo := hp op (by omega)
    obtain ⟨a1, a2, a3⟩ := hs.2 x hx
    obtain ⟨b1, b2, b3⟩ := hs.2 y hy
    refine ops_in (es0 := es) (k := op) (fun es1 g1 g2 => ?_) 10 0 _ (pre_tr h0 h1) hl2 (by omega) (by omega)
    rw [opN_two ⟨ha, by omega⟩ ho] at g2 ⊢
    have e9 : c - p op - eC es x = eC es y := by omega
    have h5 := twa_in (op := op) (c := c) (le := c - p op) (st := st) (c - p op + 1) 0 es1 g2 (by omega) (fun j hj => Nat.le_trans (hs.1 j (by omega)) g1.1) (eC es x) x y (by omega) (by omega) a2 a3 (by rw [e9]; exact b2) (by rw [e9]; exact b3)
    have e1 := pre_F g1 hx
    have e2 := pre_F g1 hy
    rw [e1, e2] at h5
    exact h5
/-- what is new was made at that cost -/
def sdE (M : Int64 → Prop) (es0 es : List Ent) : Prop := preE es0 es ∧ ∀ i, es0.length ≤ i → i < es.length → M (eF es i)
theorem sd_add {M : Int64 → Prop} {es0 es : List Ent} {f : Int64} {c : Nat} {o a b : Int32} (h : sdE M es0 es) (hf : M f) : sdE M es0 (addE f c o a b es) := by
  rcases addE_cases f c o a b es with ⟨-, q⟩ | ⟨-, -, q⟩ <;> rw [q]
  · exact h
  · refine ⟨pre_tr h.1 ⟨by rw [len_app]; omega, fun i hi => ge_old hi⟩, fun i h1 h2 => ?_⟩
    rw [len_app] at h2
    unfold eF
    rcases Nat.lt_or_ge i es.length with z | z
    · rw [ge_old z]; exact h.2 i h1 z
    · rw [show i = es.length by omega, ge_new]; exact hf
theorem sd_one {M : Int64 → Prop} {es0 : List Ent} {op c : Nat} : ∀ (n i : Nat) (es : List Ent), sdE M es0 es → (∀ x, i ≤ x → x < i + n → x < es0.length ∧ M (maF op (eF es0 x) 0)) → sdE M es0 (oneN op c n i es)
  | 0, _, _, h, _ => h
  | n + 1, i, es, h, hx => by
    have h1 := hx i (Nat.le_refl _) (by omega)
    have h2 := h1.2
    rw [← pre_F h.1 h1.1] at h2
    exact sd_one n (i + 1) _ (sd_add (c := c) (o := nI op) (a := nI i) (b := -1) h h2) (fun x a b => hx x (by omega) (by omega))
theorem sd_twj {M : Int64 → Prop} {es0 : List Ent} {op c i : Nat} (hi : i < es0.length) : ∀ (n j : Nat) (es : List Ent), sdE M es0 es → (∀ y, j ≤ y → y < j + n → y < es0.length ∧ M (maF op (eF es0 i) (eF es0 y))) → sdE M es0 (twoJ op c i n j es)
  | 0, _, _, h, _ => h
  | n + 1, j, es, h, hx => by
    have h1 := hx j (Nat.le_refl _) (by omega)
    have h2 := h1.2
    have e1 := pre_F h.1 hi
    have e2 := pre_F h.1 h1.1
    rw [← e1, ← e2] at h2
    exact sd_twj hi n (j + 1) _ (sd_add (c := c) (o := nI op) (a := nI i) (b := nI j) h h2) (fun y a b => hx y (by omega) (by omega))
theorem sd_twi {M : Int64 → Prop} {es0 : List Ent} {op c lo hi : Nat} : ∀ (n i : Nat) (es : List Ent), sdE M es0 es → (∀ x y, i ≤ x → x < i + n → lo ≤ y → y < hi → y < es0.length ∧ M (maF op (eF es0 x) (eF es0 y))) → (∀ x, i ≤ x → x < i + n → x < es0.length) → sdE M es0 (twoI op c lo hi n i es)
  | 0, _, _, h, _, _ => h
  | n + 1, i, es, h, hx, hl => sd_twi n (i + 1) _ (sd_twj (hl i (Nat.le_refl _) (by omega)) (hi - lo) lo es h (fun y a b => hx i y (Nat.le_refl _) (by omega) a (by omega))) (fun x y a b d e => hx x y (by omega) (by omega) d e) (fun x a b => hl x (by omega) (by omega))
theorem sd_twa {M : Int64 → Prop} {es0 : List Ent} {op c le : Nat} {st : Nat → Nat} (hle : le + 1 ≤ c) (hs : stC es0 st c) (hM : ∀ x y, x < es0.length → y < es0.length → eC es0 x + eC es0 y = le → M (maF op (eF es0 x) (eF es0 y))) : ∀ (n a : Nat) (es : List Ent), n + a ≤ le + 1 → sdE M es0 es → sdE M es0 (twoA op c st le n a es)
  | 0, _, _, _, h => h
  | n + 1, a, es, hn, h => by
    refine sd_twa hle hs hM n (a + 1) _ (by omega) (sd_twi (st (a + 1) - st a) (st a) es h (fun x y h1 h2 h3 h4 => ?_) (fun x h1 h2 => ?_))
    · have b1 := hs.1 (a + 1) (by omega)
      have b2 := hs.1 (le - a + 1) (by omega)
      have c1 := hs.2 a (by omega) x h1 (by omega)
      have c2 := hs.2 (le - a) (by omega) y h3 h4
      exact ⟨by omega, hM x y (by omega) (by omega) (by omega)⟩
    · have b1 := hs.1 (a + 1) (by omega)
      omega
theorem sd_co {M : Int64 → Prop} {es0 : List Ent} {cs : Nat → Bool} {c : Nat} : ∀ (n v : Nat) (es : List Ent), sdE M es0 es → (∀ u, v ≤ u → u < v + n → cs u = true → M (kF u)) → sdE M es0 (coN cs c n v es)
  | 0, _, _, h, _ => h
  | n + 1, v, es, h, hx => by
    refine sd_co n (v + 1) _ ?_ (fun u a b => hx u (by omega) (by omega))
    by_cases q : cs v = true
    · rw [if_pos q]; exact sd_add h (hx v (Nat.le_refl _) (by omega) q)
    · rw [if_neg q]; exact h
theorem sd_ops {M : Int64 → Prop} {es0 : List Ent} {p : Nat → Nat} {al : Nat → Bool} {st : Nat → Nat} {c : Nat} (hk : ∀ op, op < 10 → ∀ es, sdE M es0 es → sdE M es0 (opN p al st c op es)) : ∀ (n op : Nat) (es : List Ent), n + op ≤ 10 → sdE M es0 es → sdE M es0 (opsN p al st c n op es)
  | 0, _, _, _, h => h
  | n + 1, op, es, hn, h => sd_ops hk n (op + 1) _ (by omega) (hk op (by omega) es h)
theorem mk_sd {p : Nat → Nat} {al cs : Nat → Bool} {st : Nat → Nat} {c : Nat} {es : List Ent} (hp : ∀ k, k < 10 → 1 ≤ p k) (hs : stC es st c) : sdE (mdE p al cs c es) es (mkC p al cs st c es) := by
  have h0 : sdE (mdE p al cs c es) es es := ⟨pre_rf, fun i h1 h2 => absurd h2 (by omega)⟩
  have h1 : sdE (mdE p al cs c es) es (mk0 c es) := by
    unfold mk0
    by_cases q : c = 0
    · rw [if_pos q]; exact sd_add h0 (Or.inl ⟨q, rfl⟩)
    · rw [if_neg q]; exact h0
  have h2 : sdE (mdE p al cs c es) es (mk1 p cs c (mk0 c es)) := by
    unfold mk1
    by_cases q : c = p 10
    · rw [if_pos q]; exact sd_co 16 0 _ h1 (fun u _ hu hc => Or.inr (Or.inl ⟨q, u, by omega, hc, rfl⟩))
    · rw [if_neg q]; exact h1
  refine sd_ops (fun op ho es1 g => ?_) 10 0 _ (by decide) h2
  have hpo := hp op ho
  by_cases q : al op = true ∧ p op ≤ c
  · by_cases q2 : 4 ≤ op
    · rw [opN_two q q2]
      exact sd_twa (by omega) hs (fun x y hx hy hc => Or.inr (Or.inr (Or.inr ⟨op, x, y, q2, ho, q.1, hx, hy, by omega, rfl⟩))) _ _ _ (by omega) g
    · rw [opN_one q q2]
      refine sd_one _ _ _ g (fun x h3 h4 => ?_)
      have b1 := hs.1 (c - p op + 1) (by omega)
      have c1 := hs.2 (c - p op) (by omega) x h3 (by omega)
      exact ⟨by omega, Or.inr (Or.inr (Or.inl ⟨op, x, by omega, q.1, by omega, by omega, rfl⟩))⟩
  · rw [opN_no q]; exact g
theorem sq_stC {p : Nat → Nat} {al cs : Nat → Bool} {b : Nat} (hb : b ≤ 6) (hp : ∀ k, k < 10 → 1 ≤ p k) (c : Nat) : stC (sq p al cs b c).2 (sq p al cs b (c + 1)).1 c := by
  have ih := sq_wf (b := b) (al := al) (cs := cs) hb hp c
  have hm0 := sq_mono (p := p) (al := al) (cs := cs) (b := b) c
  refine ⟨fun j hj => ?_, fun j hj x h1 h2 => ?_⟩
  · by_cases z : j = c
    · subst z; rw [sq_st]; exact Nat.le_refl _
    · rw [sq_st_ne z]; exact hm0.1 j (by omega)
  · refine ih.2.2 j hj x (by rw [sq_st_ne (show j ≠ c by omega)] at h1; exact h1) ?_
    by_cases z : j + 1 = c
    · rw [if_pos z]; rw [z, sq_st] at h2; exact h2
    · rw [if_neg z]; rw [sq_st_ne z] at h2; exact h2
theorem sq_atE {p : Nat → Nat} {al cs : Nat → Bool} {b : Nat} (hb : b ≤ 6) (hp : ∀ k, k < 10 → 1 ≤ p k) (c : Nat) : atE (sq p al cs b c).2 (sq p al cs b (c + 1)).1 c := by
  have hs := sq_stC (al := al) (cs := cs) hb hp c
  have h0 : (sq p al cs b (c + 1)).1 0 = 0 := sq_0 c
  have hc : (sq p al cs b (c + 1)).1 c = (sq p al cs b c).2.length := sq_st
  refine ⟨hs.1, fun x hx => ?_⟩
  have hk : ∀ n, x < (sq p al cs b (c + 1)).1 n → ∃ j, j < n ∧ (sq p al cs b (c + 1)).1 j ≤ x ∧ x < (sq p al cs b (c + 1)).1 (j + 1) := by
    intro n
    induction n with
    | zero => intro h9; rw [h0] at h9; exact absurd h9 (Nat.not_lt_zero _)
    | succ n ih =>
      intro h9
      rcases Nat.lt_or_ge x ((sq p al cs b (c + 1)).1 n) with z | z
      · obtain ⟨j, a1, a2⟩ := ih z
        exact ⟨j, by omega, a2⟩
      · exact ⟨n, by omega, z, h9⟩
  obtain ⟨j, a1, a2, a3⟩ := hk c (by rw [hc]; exact hx)
  have e := hs.2 j a1 x a2 a3
  rw [e]
  exact ⟨a1, a2, a3⟩
theorem sq_stj {p : Nat → Nat} {al cs : Nat → Bool} {b j : Nat} : ∀ d, (sq p al cs b (j + d + 1)).1 j = (sq p al cs b j).2.length
  | 0 => sq_st
  | d + 1 => by
    have h := sq_stj (p := p) (al := al) (cs := cs) (b := b) (j := j) d
    rw [show j + (d + 1) + 1 = (j + d + 1) + 1 by omega, sq_st_ne (by omega)]
    exact h
theorem sq_low {p : Nat → Nat} {al cs : Nat → Bool} {b c m x : Nat} (hb : b ≤ 6) (hp : ∀ k, k < 10 → 1 ≤ p k) (hm : m ≤ c) (hx : x < (sq p al cs b c).2.length) (hc : eC (sq p al cs b c).2 x < m) : x < (sq p al cs b m).2.length := by
  obtain ⟨a1, a2, a3⟩ := (sq_atE (al := al) (cs := cs) hb hp c).2 x hx
  generalize eC (sq p al cs b c).2 x = d at hc a1 a2 a3
  have h1 := sq_stj (p := p) (al := al) (cs := cs) (b := b) (j := d + 1) (c - (d + 1))
  rw [show d + 1 + (c - (d + 1)) + 1 = c + 1 by omega] at h1
  rw [h1] at a3
  exact Nat.lt_of_lt_of_le a3 (sq_preL (show d + 1 ≤ m by omega)).1
theorem sq_new {p : Nat → Nat} {al cs : Nat → Bool} {b c x : Nat} (hb : b ≤ 6) (hp : ∀ k, k < 10 → 1 ≤ p k) (hc : c ≤ b) (h1 : (sq p al cs b c).2.length ≤ x) (h2 : x < (sq p al cs b (c + 1)).2.length) : eC (sq p al cs b (c + 1)).2 x = c ∧ mdE p al cs c (sq p al cs b c).2 (eF (sq p al cs b (c + 1)).2 x) := by
  have hw := (sq_wf (b := b) (al := al) (cs := cs) hb hp (c + 1)).2.1 x h2
  have hg : ¬ eC (sq p al cs b (c + 1)).2 x < c := fun q => by
    have := sq_low (al := al) (cs := cs) hb hp (Nat.le_succ c) h2 q
    omega
  refine ⟨by omega, ?_⟩
  have hsd := mk_sd (al := al) (cs := cs) hp (sq_stC (al := al) (cs := cs) hb hp c)
  rw [← sq_in hc] at hsd
  exact hsd.2 x h1 h2
/-- what is allowed more makes no function dearer -/
theorem more_at {p : Nat → Nat} {al bl cs ds : Nat → Bool} {b : Nat} (hb : b ≤ 6) (hp : ∀ k, k < 10 → 1 ≤ p k) (hal : ∀ k, al k = true → bl k = true) (hcs : ∀ v, cs v = true → ds v = true) (hl : (sq p bl ds b (b + 1)).2.length < 2000) : ∀ c, c ≤ b + 1 → ∀ i, i < (sq p al cs b c).2.length → ∃ x, x < (sq p bl ds b (b + 1)).2.length ∧ eF (sq p bl ds b (b + 1)).2 x = eF (sq p al cs b c).2 i ∧ eC (sq p bl ds b (b + 1)).2 x ≤ eC (sq p al cs b c).2 i
  | 0, _, i, hi => absurd hi (Nat.not_lt_zero i)
  | c + 1, hc, i, hi => by
    have ih := more_at (al := al) (cs := cs) hb hp hal hcs hl c (by omega)
    have hpr := sq_pre (p := p) (al := al) (cs := cs) (b := b) (c := c)
    rcases Nat.lt_or_ge i (sq p al cs b c).2.length with z | z
    · rw [pre_F hpr z, pre_C hpr z]
      exact ih i z
    · obtain ⟨hcost, hmd⟩ := sq_new (al := al) (cs := cs) hb hp (show c ≤ b by omega) z hi
      rw [hcost]
      generalize eF (sq p al cs b (c + 1)).2 i = f at hmd
      have key : ∀ c2, c2 ≤ c → mdE p bl ds c2 (sq p bl ds b c2).2 f → ∃ x, x < (sq p bl ds b (b + 1)).2.length ∧ eF (sq p bl ds b (b + 1)).2 x = f ∧ eC (sq p bl ds b (b + 1)).2 x ≤ c := by
        intro c2 h2 hm
        have hin : (sq p bl ds b (c2 + 1)).2 = mkC p bl ds (sq p bl ds b (c2 + 1)).1 c2 (sq p bl ds b c2).2 := sq_in (by omega)
        have hup := sq_preL (p := p) (al := bl) (cs := ds) (b := b) (show c2 + 1 ≤ b + 1 by omega)
        have hl2 : (mkC p bl ds (sq p bl ds b (c2 + 1)).1 c2 (sq p bl ds b c2).2).length < 2000 := by
          rw [← hin]; exact Nat.lt_of_le_of_lt hup.1 hl
        have h3 := mk_all hp (sq_atE (al := bl) (cs := ds) hb hp c2) hl2 hm
        rw [← hin] at h3
        obtain ⟨x, hx, he⟩ := h3
        refine ⟨x, Nat.lt_of_lt_of_le hx hup.1, by rw [pre_F hup hx]; exact he, ?_⟩
        rw [pre_C hup hx]
        have := (sq_wf (b := b) (al := bl) (cs := ds) hb hp (c2 + 1)).2.1 x hx
        omega
      have low : ∀ x c2, x < (sq p bl ds b (b + 1)).2.length → eC (sq p bl ds b (b + 1)).2 x < c2 → c2 ≤ b + 1 → x < (sq p bl ds b c2).2.length ∧ eF (sq p bl ds b c2).2 x = eF (sq p bl ds b (b + 1)).2 x ∧ eC (sq p bl ds b c2).2 x = eC (sq p bl ds b (b + 1)).2 x := by
        intro x c2 hx h2 h3
        have hx2 := sq_low (al := bl) (cs := ds) hb hp h3 hx h2
        have hup := sq_preL (p := p) (al := bl) (cs := ds) (b := b) h3
        exact ⟨hx2, (pre_F hup hx2).symm, (pre_C hup hx2).symm⟩
      rcases hmd with ⟨h0, hf⟩ | ⟨h0, v, hv, hcv, hf⟩ | ⟨op, x, ho, ha, hx, h0, hf⟩ | ⟨op, x, y, ho, ho2, ha, hx, hy, h0, hf⟩
      · exact key c (Nat.le_refl _) (Or.inl ⟨h0, hf⟩)
      · exact key c (Nat.le_refl _) (Or.inr (Or.inl ⟨h0, v, hv, hcs v hcv, hf⟩))
      · have hpo := hp op (by omega)
        obtain ⟨x2, g1, g2, g3⟩ := ih x hx
        obtain ⟨k1, k2, k3⟩ := low x2 (eC (sq p bl ds b (b + 1)).2 x2 + p op) g1 (by omega) (by omega)
        refine key (eC (sq p bl ds b (b + 1)).2 x2 + p op) (by omega) (Or.inr (Or.inr (Or.inl ⟨op, x2, ho, hal op ha, k1, by rw [k3], ?_⟩)))
        rw [k2, g2]; exact hf
      · have hpo := hp op (by omega)
        obtain ⟨x2, g1, g2, g3⟩ := ih x hx
        obtain ⟨y2, f1, f2, f3⟩ := ih y hy
        obtain ⟨k1, k2, k3⟩ := low x2 (eC (sq p bl ds b (b + 1)).2 x2 + eC (sq p bl ds b (b + 1)).2 y2 + p op) g1 (by omega) (by omega)
        obtain ⟨j1, j2, j3⟩ := low y2 (eC (sq p bl ds b (b + 1)).2 x2 + eC (sq p bl ds b (b + 1)).2 y2 + p op) f1 (by omega) (by omega)
        refine key (eC (sq p bl ds b (b + 1)).2 x2 + eC (sq p bl ds b (b + 1)).2 y2 + p op) (by omega) (Or.inr (Or.inr (Or.inr ⟨op, x2, y2, ho, ho2, hal op ha, k1, j1, by rw [k3, j3], ?_⟩)))
        rw [k2, g2, j2, f2]; exact hf
theorem more_ok {p : Nat → Nat} {al bl cs ds : Nat → Bool} {b : Nat} (hb : b ≤ 6) (hp : ∀ k, k < 10 → 1 ≤ p k) (hal : ∀ k, al k = true → bl k = true) (hcs : ∀ v, cs v = true → ds v = true) (hl : (sq p bl ds b 8).2.length < 2000) {i : Nat} (hi : i < (sq p al cs b 8).2.length) : ∃ x, x < (sq p bl ds b 8).2.length ∧ eF (sq p bl ds b 8).2 x = eF (sq p al cs b 8).2 i ∧ eC (sq p bl ds b 8).2 x ≤ eC (sq p al cs b 8).2 i := by
  rw [← sq_8 hb] at hl hi ⊢
  rw [← sq_8 (al := al) (cs := cs) hb]
  exact more_at hb hp hal hcs hl (b + 1) (Nat.le_refl _) i hi
theorem sq_bud {p : Nat → Nat} {al cs : Nat → Bool} {b b2 : Nat} (h2 : b ≤ b2) : ∀ c, c ≤ b + 1 → sq p al cs b2 c = sq p al cs b c
  | 0, _ => rfl
  | c + 1, h => by
    have ih := sq_bud (p := p) (al := al) (cs := cs) h2 c (by omega)
    have e1 : c ≤ b := by omega
    have e2 : c ≤ b2 := by omega
    show (va_up (sq p al cs b2 c).1 c (sq p al cs b2 c).2.length, if c ≤ b2 then mkC p al cs (va_up (sq p al cs b2 c).1 c (sq p al cs b2 c).2.length) c (sq p al cs b2 c).2 else (sq p al cs b2 c).2) = (va_up (sq p al cs b c).1 c (sq p al cs b c).2.length, if c ≤ b then mkC p al cs (va_up (sq p al cs b c).1 c (sq p al cs b c).2.length) c (sq p al cs b c).2 else (sq p al cs b c).2)
    rw [ih, if_pos e1, if_pos e2]
/-- a budget that is greater by 1 keeps the first entries -/
theorem next_ok {p : Nat → Nat} {al cs : Nat → Bool} {b : Nat} (hb : b + 1 ≤ 6) : preE (sq p al cs b 8).2 (sq p al cs (b + 1) 8).2 := by
  rw [← sq_8 (show b ≤ 6 by omega), ← sq_bud (show b ≤ b + 1 by omega) (b + 1) (Nat.le_refl _)]
  exact sq_preL (by omega)
theorem cost_le {p : Nat → Nat} {al cs : Nat → Bool} {b i : Nat} (hb : b ≤ 6) (hp : ∀ k, k < 10 → 1 ≤ p k) (hi : i < (sq p al cs b 8).2.length) : eC (sq p al cs b 8).2 i ≤ b := by
  rw [← sq_8 hb] at hi ⊢
  have := (sq_wf (b := b) (al := al) (cs := cs) hb hp (b + 1)).2.1 i hi
  omega
theorem cost_up {es : List Ent} {st : Nat → Nat} (h : stI es st) {i j : Nat} (hij : i ≤ j) (hj : j < es.length) : eC es i ≤ eC es j := by
  have c1 := (h.1 i (by omega)).1
  have c2 := (h.1 j hj).1
  rcases Nat.lt_or_ge (eC es j) (eC es i) with q | q
  · have h1 := ((stI_c h hj c2).mp rfl).2
    have h2 := ((stI_c h (show i < es.length by omega) c1).mp rfl).1
    have h3 := h.2.1.2 (eC es j + 1) (eC es i) (by omega) (by omega)
    omega
  · exact q
/-! what a row answers of its own functions -/
theorem find_x {es : List Ent} {fF : Nat → Int64} {oF aF bF sF : Nat → Int32} (hw : rowOk es fF oF aF bF sF) {x : Nat} {f : Int64} {r : Int32} (hx : x < es.length) (he : eF es x = f) (hr : r = nI (fnN es f es.length) - 1) : r = nI x := by
  rw [hr, fn_at hw.2.2.1 hx he]
  show nI (x + 1) - nI 1 = nI x
  rw [pk_sub (by omega)]
  congr 1
theorem fit_eq {f g : Int64} : (g ^^^ f) &&& mkN 65535 16 = 0 ↔ g = f := by
  have hm : ∀ i, i < 16 → nib (mkN 65535 16) i = 15 := fun i hi => by
    rw [nib_mk hi]; exact if_pos (all_1 i hi)
  constructor
  · intro h
    apply nib_ext
    intro i hi
    have h2 : nib ((g ^^^ f) &&& mkN 65535 16) i = 0 := by rw [h]; exact nib_0 i hi
    rw [nib_and, nib_xor, hm i hi] at h2
    exact (c_f1 _ (nib_lt g i) _ (nib_lt f i)).mp h2
  · rintro rfl
    apply nib_ext
    intro i hi
    rw [nib_0 i hi, nib_and, nib_xor, hm i hi]
    exact (c_f1 _ (nib_lt g i) _ (nib_lt g i)).mpr rfl
theorem fit_x {es : List Ent} {fF : Nat → Int64} {oF aF bF sF : Nat → Int32} (hw : rowOk es fF oF aF bF sF) {x : Nat} {r : Int32} (hx : x < es.length) (h : fstI (fun j => (eF es j ^^^ eF es x) &&& mkN 65535 16 = 0) es.length r) : r = nI x := by
  rcases h with ⟨i, h1, h2, h3, -⟩ | ⟨-, h2⟩
  · rw [h2, hw.2.2.1 i x h1 hx (fit_eq.mp h3)]
  · exact absurd (fit_eq.mpr rfl) (h2 x hx)
theorem df_nn (f g : Int64) : (lbc (dfF g f)).toInt = (sN (ne01 g f) 16 : Nat) := by
  have hle : ∀ n, sN (ne01 g f) n ≤ n := by
    intro n
    induction n with
    | zero => exact Nat.le_refl 0
    | succ n ih =>
      have h1 := ne_le g f n
      show sN (ne01 g f) n + ne01 g f n ≤ n + 1
      omega
  have h2 := hle 16
  rw [lbc_df, s16_sN, nI_toInt (by omega)]
theorem sN_0 {v : Nat → Nat} : ∀ n, sN v n = 0 → ∀ i, i < n → v i = 0
  | 0, _, i, hi => absurd hi (Nat.not_lt_zero i)
  | n + 1, h, i, hi => by
    have h1 : sN v n + v n = 0 := h
    rcases Nat.lt_or_ge i n with q | q
    · exact sN_0 n (by omega) i q
    · rw [show i = n by omega]; omega
theorem sN_z {v : Nat → Nat} : ∀ n, (∀ i, i < n → v i = 0) → sN v n = 0
  | 0, _ => rfl
  | n + 1, h => by
    show sN v n + v n = 0
    rw [sN_z n (fun i hi => h i (by omega)), h n (by omega)]
theorem df_0 {f g : Int64} : (lbc (dfF g f)).toInt = 0 ↔ g = f := by
  rw [df_nn]
  constructor
  · intro h
    apply nib_ext
    intro i hi
    have h1 := sN_0 (v := ne01 g f) 16 (by omega) i hi
    unfold ne01 at h1
    by_cases q : nib g i = nib f i
    · exact q
    · rw [if_neg q] at h1; omega
  · rintro rfl
    have := sN_z (v := ne01 g g) 16 (fun i _ => if_pos rfl)
    omega
theorem near_x {es : List Ent} {fF : Nat → Int64} {oF aF bF sF : Nat → Int32} (hw : rowOk es fF oF aF bF sF) {x : Nat} {r : Int32} (hx : x < es.length) (hr : r = (nrN (fun j => lbc (dfF (eF es j) (eF es x))) es.length).1) : r = nI x := by
  have h0 : ∀ j, 0 ≤ (lbc (dfF (eF es j) (eF es x))).toInt := fun j => by rw [df_nn]; omega
  have hp : ∀ j, j < es.length → j ≠ x → 0 < (lbc (dfF (eF es j) (eF es x))).toInt := fun j hj hn => by
    have h1 := h0 j
    rcases Int.lt_or_le 0 (lbc (dfF (eF es j) (eF es x))).toInt with q | q
    · exact q
    · exact absurd (hw.2.2.1 j x hj hx (df_0.mp (by omega))) hn
  have hz : (lbc (dfF (eF es x) (eF es x))).toInt = 0 := df_0.mpr rfl
  generalize hd : (fun j => lbc (dfF (eF es j) (eF es x))) = d at hr
  have d0 : ∀ j, 0 ≤ (d j).toInt := fun j => by rw [← hd]; exact h0 j
  have dp : ∀ j, j < es.length → j ≠ x → 0 < (d j).toInt := fun j hj hn => by rw [← hd]; exact hp j hj hn
  have dz : (d x).toInt = 0 := by rw [← hd]; exact hz
  have a1 : ∀ n, n ≤ x → 0 < (nrN d n).2.toInt := by
    intro n
    induction n with
    | zero => intro _; show 0 < (nI 17).toInt; decide
    | succ n ih =>
      intro hn
      have h1 := ih (by omega)
      have h2 := dp n (by omega) (by omega)
      rcases Int.lt_or_le (d n).toInt (nrN d n).2.toInt with q | q
      · rw [nrN_1 q]; exact h2
      · rw [nrN_0 q]; exact h1
  have a2 : ∀ k, x + 1 + k ≤ es.length → nrN d (x + 1 + k) = (nI x, d x) := by
    intro k
    induction k with
    | zero =>
      intro _
      exact nrN_1 (by have := a1 x (Nat.le_refl _); omega)
    | succ k ih =>
      intro hk
      have h1 := ih (by omega)
      rw [show x + 1 + (k + 1) = (x + 1 + k) + 1 by omega, nrN_0 (by rw [h1]; show (d x).toInt ≤ _; have := d0 (x + 1 + k); omega)]
      exact h1
  have a3 := a2 (es.length - (x + 1)) (by omega)
  rw [show x + 1 + (es.length - (x + 1)) = es.length by omega] at a3
  rw [hr, a3]
theorem sum_st {es : List Ent} {st : Nat → Nat} (h : stI es st) {u : Nat} (hu : u ≤ 6) : nI (st u) + (nI (st (u + 1)) - nI (st u)) = nI (st (u + 1)) := by
  have h1 := h.2.1.2 u (u + 1) (by omega) (by omega)
  rw [pk_sub h1, nI_add]
  congr 1
  omega
theorem up_sub {al bl : Nat → Bool} {o : Nat} {u v : Bool} (h : ∀ k, al k = true → bl k = true) (huv : u = true → v = true) : ∀ k, va_up al o u k = true → va_up bl o v k = true := by
  intro k hk
  by_cases q : k = o
  · rw [q, va_up_self] at hk ⊢; exact huv hk
  · rw [va_up_ne _ _ q] at hk ⊢; exact h k hk

/-! entries are well made: what an entry is made of lies ahead of it, and costs less -/
def wf1 (es : List Ent) (i : Nat) : Prop := eC es i ≤ 6 ∧ ((eO es i = -1 ∧ eA es i = -1 ∧ eB es i = -1) ∨ (eO es i = -2 ∧ (∃ v, v < 16 ∧ eA es i = nI v) ∧ eB es i = -1) ∨ (∃ o a, o < 4 ∧ eO es i = nI o ∧ a < i ∧ eA es i = nI a ∧ eB es i = -1 ∧ eC es a + 1 ≤ eC es i) ∨ (∃ o a b, 4 ≤ o ∧ o < 10 ∧ eO es i = nI o ∧ a < i ∧ eA es i = nI a ∧ b < i ∧ eB es i = nI b ∧ eC es a + eC es b + 1 ≤ eC es i))
def wfE (es : List Ent) : Prop := ∀ i, i < es.length → wf1 es i
theorem wf_app {es : List Ent} {f : Int64} {c : Nat} {o a b : Int32} (h : wfE es) (hc : c ≤ 6) (hn : (o = -1 ∧ a = -1 ∧ b = -1) ∨ (o = -2 ∧ (∃ v, v < 16 ∧ a = nI v) ∧ b = -1) ∨ (∃ k x, k < 4 ∧ o = nI k ∧ x < es.length ∧ a = nI x ∧ b = -1 ∧ eC es x + 1 ≤ c) ∨ (∃ k x y, 4 ≤ k ∧ k < 10 ∧ o = nI k ∧ x < es.length ∧ a = nI x ∧ y < es.length ∧ b = nI y ∧ eC es x + eC es y + 1 ≤ c)) : wfE (es ++ [(f, c, o, a, b)]) := by
  intro i hi
  rw [len_app] at hi
  rcases Nat.lt_or_ge i es.length with q | q
  · have h1 := h i q
    have e0 : (es ++ [(f, c, o, a, b)]).getD i ent0 = es.getD i ent0 := ge_old q
    have eo : ∀ x, x < i → eC (es ++ [(f, c, o, a, b)]) x = eC es x := fun x hx => by unfold eC; rw [ge_old (by omega)]
    unfold wf1 at h1 ⊢
    have a1 : eC (es ++ [(f, c, o, a, b)]) i = eC es i := by unfold eC; rw [e0]
    have a2 : eO (es ++ [(f, c, o, a, b)]) i = eO es i := by unfold eO; rw [e0]
    have a3 : eA (es ++ [(f, c, o, a, b)]) i = eA es i := by unfold eA; rw [e0]
    have a4 : eB (es ++ [(f, c, o, a, b)]) i = eB es i := by unfold eB; rw [e0]
    rw [a1, a2, a3, a4]
    refine ⟨h1.1, ?_⟩
    rcases h1.2 with z | z | ⟨k, x, z1, z2, z3, z4, z5, z6⟩ | ⟨k, x, y, z0, z1, z2, z3, z4, z5, z6, z7⟩
    · exact Or.inl z
    · exact Or.inr (Or.inl z)
    · exact Or.inr (Or.inr (Or.inl ⟨k, x, z1, z2, z3, z4, z5, by rw [eo x z3]; exact z6⟩))
    · exact Or.inr (Or.inr (Or.inr ⟨k, x, y, z0, z1, z2, z3, z4, z5, z6, by rw [eo x z3, eo y z5]; exact z7⟩))
  · obtain rfl : i = es.length := by omega
    have e0 : (es ++ [(f, c, o, a, b)]).getD es.length ent0 = (f, c, o, a, b) := ge_new
    have eo : ∀ x, x < es.length → eC (es ++ [(f, c, o, a, b)]) x = eC es x := fun x hx => by unfold eC; rw [ge_old hx]
    unfold wf1
    have a1 : eC (es ++ [(f, c, o, a, b)]) es.length = c := by unfold eC; rw [e0]
    have a2 : eO (es ++ [(f, c, o, a, b)]) es.length = o := by unfold eO; rw [e0]
    have a3 : eA (es ++ [(f, c, o, a, b)]) es.length = a := by unfold eA; rw [e0]
    have a4 : eB (es ++ [(f, c, o, a, b)]) es.length = b := by unfold eB; rw [e0]
    rw [a1, a2, a3, a4]
    refine ⟨hc, ?_⟩
    rcases hn with z | z | ⟨k, x, z1, z2, z3, z4, z5, z6⟩ | ⟨k, x, y, z0, z1, z2, z3, z4, z5, z6, z7⟩
    · exact Or.inl z
    · exact Or.inr (Or.inl z)
    · exact Or.inr (Or.inr (Or.inl ⟨k, x, z1, z2, z3, z4, z5, by rw [eo x z3]; exact z6⟩))
    · exact Or.inr (Or.inr (Or.inr ⟨k, x, y, z0, z1, z2, z3, z4, z5, z6, by rw [eo x z3, eo y z5]; exact z7⟩))
/-- what holds while the cost c is made: the row begins with es0, all behind it has the cost c -/
def inv1 (es0 es : List Ent) (c : Nat) : Prop := wfE es ∧ es0.length ≤ es.length ∧ es.length ≤ 2000 ∧ (∀ i, i < es0.length → es.getD i ent0 = es0.getD i ent0) ∧ ∀ i, es0.length ≤ i → i < es.length → eC es i = c
theorem inv1_add {es0 es : List Ent} {c : Nat} {f : Int64} {o a b : Int32} (h : inv1 es0 es c) (hc : c ≤ 6) (hn : (o = -1 ∧ a = -1 ∧ b = -1) ∨ (o = -2 ∧ (∃ v, v < 16 ∧ a = nI v) ∧ b = -1) ∨ (∃ k x, k < 4 ∧ o = nI k ∧ x < es.length ∧ a = nI x ∧ b = -1 ∧ eC es x + 1 ≤ c) ∨ (∃ k x y, 4 ≤ k ∧ k < 10 ∧ o = nI k ∧ x < es.length ∧ a = nI x ∧ y < es.length ∧ b = nI y ∧ eC es x + eC es y + 1 ≤ c)) : inv1 es0 (addE f c o a b es) c := by
  rcases addE_cases f c o a b es with ⟨-, q⟩ | ⟨q1, -, q⟩ <;> rw [q]
  · exact h
  · obtain ⟨h1, h2, h3, h4, h5⟩ := h
    refine ⟨wf_app h1 hc hn, by rw [len_app]; omega, by rw [len_app]; omega, fun i hi => by rw [ge_old (by omega)]; exact h4 i hi, fun i hi hi2 => ?_⟩
    rw [len_app] at hi2
    unfold eC
    rcases Nat.lt_or_ge i es.length with z | z
    · rw [ge_old z]; exact h5 i hi z
    · rw [show i = es.length by omega, ge_new]
theorem inv1_C {es0 es : List Ent} {c i : Nat} (h : inv1 es0 es c) (hi : i < es0.length) : eC es i = eC es0 i := by
  unfold eC; rw [h.2.2.2.1 i hi]
theorem inv1_one {es0 : List Ent} {op c r : Nat} (ho : op < 4) (hc : c ≤ 6) : ∀ {n i : Nat} {es : List Ent}, inv1 es0 es c → (∀ x, i ≤ x → x < i + n → x < es0.length ∧ eC es0 x + 1 ≤ c) → inv1 es0 (oneN op c n i es) c
  | 0, _, _, h, _ => h
  | n + 1, i, es, h, hx => by
    have h1 := hx i (Nat.le_refl _) (by omega)
    exact inv1_one (n := n) (i := i + 1) ho hc (r := r) (inv1_add h hc (Or.inr (Or.inr (Or.inl ⟨op, i, ho, rfl, by have := h.2.1; omega, rfl, rfl, by rw [inv1_C h h1.1]; exact h1.2⟩)))) (fun x a b => hx x (by omega) (by omega))
theorem inv1_twoJ {es0 : List Ent} {op c i : Nat} (ho : 4 ≤ op) (ho2 : op < 10) (hc : c ≤ 6) (hi : i < es0.length) : ∀ {n j : Nat} {es : List Ent}, inv1 es0 es c → (∀ x, j ≤ x → x < j + n → x < es0.length ∧ eC es0 i + eC es0 x + 1 ≤ c) → inv1 es0 (twoJ op c i n j es) c
  | 0, _, _, h, _ => h
  | n + 1, j, es, h, hx => by
    have h1 := hx j (Nat.le_refl _) (by omega)
    exact inv1_twoJ (n := n) (j := j + 1) ho ho2 hc hi (inv1_add h hc (Or.inr (Or.inr (Or.inr ⟨op, i, j, ho, ho2, rfl, by have := h.2.1; omega, rfl, by have := h.2.1; omega, rfl, by rw [inv1_C h hi, inv1_C h h1.1]; exact h1.2⟩)))) (fun x a b => hx x (by omega) (by omega))
theorem inv1_twoI {es0 : List Ent} {op c lo hi : Nat} (ho : 4 ≤ op) (ho2 : op < 10) (hc : c ≤ 6) : ∀ {n i : Nat} {es : List Ent}, inv1 es0 es c → (∀ x y, i ≤ x → x < i + n → lo ≤ y → y < hi → x < es0.length ∧ y < es0.length ∧ eC es0 x + eC es0 y + 1 ≤ c) → (∀ x, i ≤ x → x < i + n → x < es0.length) → inv1 es0 (twoI op c lo hi n i es) c
  | 0, _, _, h, _, _ => h
  | n + 1, i, es, h, hx, hl =>
    inv1_twoI (n := n) (i := i + 1) ho ho2 hc (inv1_twoJ (n := hi - lo) (j := lo) ho ho2 hc (hl i (Nat.le_refl _) (by omega)) h (fun y a b => (hx i y (Nat.le_refl _) (by omega) a (by omega)).2)) (fun x y a b d e => hx x y (by omega) (by omega) d e) (fun x a b => hl x (by omega) (by omega))
/-- the starts up to c tell the costs below c -/
def stC (es : List Ent) (st : Nat → Nat) (c : Nat) : Prop := (∀ j, j ≤ c → st j ≤ es.length) ∧ ∀ j, j < c → ∀ x, st j ≤ x → x < st (j + 1) → eC es x = j
theorem inv1_twoA {es0 : List Ent} {op c le : Nat} {st : Nat → Nat} (ho : 4 ≤ op) (ho2 : op < 10) (hc : c ≤ 6) (hle : le + 1 ≤ c) (hs : stC es0 st c) : ∀ {n a : Nat} {es : List Ent}, n + a ≤ le + 1 → inv1 es0 es c → inv1 es0 (twoA op c st le n a es) c
  | 0, _, _, _, h => h
  | n + 1, a, es, hn, h => by
    refine inv1_twoA (n := n) (a := a + 1) ho ho2 hc hle hs (by omega) (inv1_twoI (n := st (a + 1) - st a) (i := st a) ho ho2 hc h (fun x y h1 h2 h3 h4 => ?_) (fun x h1 h2 => ?_))
    · have b1 := hs.1 (a + 1) (by omega)
      have b2 := hs.1 (le - a + 1) (by omega)
      have c1 := hs.2 a (by omega) x h1 (by omega)
      have c2 := hs.2 (le - a) (by omega) y h3 h4
      exact ⟨by omega, by omega, by omega⟩
    · have b1 := hs.1 (a + 1) (by omega)
      omega
theorem inv1_op {es0 es : List Ent} {p : Nat → Nat} {al : Nat → Bool} {st : Nat → Nat} {c op : Nat} (ho : op < 10) (hp : 1 ≤ p op) (hc : c ≤ 6) (hs : stC es0 st c) (h : inv1 es0 es c) : inv1 es0 (opN p al st c op es) c := by
  by_cases q : al op = true ∧ p op ≤ c
  · by_cases q2 : 4 ≤ op
    · rw [opN_two q q2]
      exact inv1_twoA q2 ho hc (by omega) hs (by omega) h
    · rw [opN_one q q2]
      refine inv1_one (r := 0) (by omega) hc h (fun x h1 h2 => ?_)
      have b1 := hs.1 (c - p op + 1) (by omega)
      have c1 := hs.2 (c - p op) (by omega) x h1 (by omega)
      exact ⟨by omega, by omega⟩
  · rw [opN_no q]; exact h
theorem inv1_ops {es0 : List Ent} {p : Nat → Nat} {al : Nat → Bool} {st : Nat → Nat} {c : Nat} (hp : ∀ k, k < 10 → 1 ≤ p k) (hc : c ≤ 6) (hs : stC es0 st c) : ∀ {n op : Nat} {es : List Ent}, n + op ≤ 10 → inv1 es0 es c → inv1 es0 (opsN p al st c n op es) c
  | 0, _, _, _, h => h
  | n + 1, op, es, hn, h => inv1_ops (n := n) (op := op + 1) hp hc hs (by omega) (inv1_op (by omega) (hp op (by omega)) hc hs h)
theorem inv1_co {es0 : List Ent} {cs : Nat → Bool} {c : Nat} (hc : c ≤ 6) : ∀ {n v : Nat} {es : List Ent}, n + v ≤ 16 → inv1 es0 es c → inv1 es0 (coN cs c n v es) c
  | 0, _, _, _, h => h
  | n + 1, v, es, hn, h => by
    refine inv1_co (n := n) (v := v + 1) hc (by omega) ?_
    split
    · exact inv1_add h hc (Or.inr (Or.inl ⟨rfl, ⟨v, by omega, rfl⟩, rfl⟩))
    · exact h
theorem inv1_mk {es0 : List Ent} {p : Nat → Nat} {al cs : Nat → Bool} {st : Nat → Nat} {c : Nat} (hp : ∀ k, k < 10 → 1 ≤ p k) (hc : c ≤ 6) (hs : stC es0 st c) (hw : wfE es0) (hl : es0.length ≤ 2000) : inv1 es0 (mkC p al cs st c es0) c := by
  have h0 : inv1 es0 es0 c := ⟨hw, Nat.le_refl _, hl, fun i hi => rfl, fun i h1 h2 => absurd h2 (by omega)⟩
  have h1 : inv1 es0 (mk0 c es0) c := by
    unfold mk0
    by_cases q : c = 0
    · rw [if_pos q]; subst q; exact inv1_add h0 hc (Or.inl ⟨rfl, rfl, rfl⟩)
    · rw [if_neg q]; exact h0
  have h2 : inv1 es0 (mk1 p cs c (mk0 c es0)) c := by
    unfold mk1
    split
    · exact inv1_co hc (by decide) h1
    · exact h1
  exact inv1_ops hp hc hs (by decide) h2
theorem sq_wf {p : Nat → Nat} {al cs : Nat → Bool} {b : Nat} (hb : b ≤ 6) (hp : ∀ k, k < 10 → 1 ≤ p k) : ∀ c, wfE (sq p al cs b c).2 ∧ (∀ x, x < (sq p al cs b c).2.length → eC (sq p al cs b c).2 x < c) ∧ ∀ j, j < c → ∀ x, (sq p al cs b c).1 j ≤ x → x < (if j + 1 = c then (sq p al cs b c).2.length else (sq p al cs b c).1 (j + 1)) → eC (sq p al cs b c).2 x = j
  | 0 => ⟨fun i hi => absurd hi (Nat.not_lt_zero i), fun i hi => absurd hi (Nat.not_lt_zero i), fun j hj => absurd hj (Nat.not_lt_zero j)⟩
  | c + 1 => by
    have ih := sq_wf (b := b) (al := al) (cs := cs) hb hp c
    have hm := sq_mono (p := p) (al := al) (cs := cs) (b := b) (c + 1)
    have hm0 := sq_mono (p := p) (al := al) (cs := cs) (b := b) c
    have hlen := sq_len (p := p) (al := al) (cs := cs) (b := b) c
    by_cases q : c ≤ b
    · have hs : stC (sq p al cs b c).2 (sq p al cs b (c + 1)).1 c := by
        refine ⟨fun j hj => ?_, fun j hj x h1 h2 => ?_⟩
        · by_cases z : j = c
          · subst z; rw [sq_st]; exact Nat.le_refl _
          · rw [sq_st_ne z]; exact hm0.1 j (by omega)
        · refine ih.2.2 j hj x (by rw [sq_st_ne (show j ≠ c by omega)] at h1; exact h1) ?_
          by_cases z : j + 1 = c
          · rw [if_pos z]; rw [z, sq_st] at h2; exact h2
          · rw [if_neg z]; rw [sq_st_ne z] at h2; exact h2
      have hi := inv1_mk (al := al) (cs := cs) hp (by omega) hs ih.1 hlen
      rw [← sq_in q] at hi
      refine ⟨hi.1, fun x hx => ?_, fun j hj x h1 h2 => ?_⟩
      · rcases Nat.lt_or_ge x (sq p al cs b c).2.length with z | z
        · rw [inv1_C hi z]; have := ih.2.1 x z; omega
        · rw [hi.2.2.2.2 x z hx]; omega
      · by_cases z : j = c
        · subst z
          rw [sq_st] at h1
          rw [if_pos rfl] at h2
          exact hi.2.2.2.2 x h1 h2
        · rw [if_neg (by omega)] at h2
          have hx : x < (sq p al cs b c).2.length := by
            have := hs.1 (j + 1) (by omega)
            omega
          rw [inv1_C hi hx]
          exact hs.2 j (by omega) x h1 h2
    · rw [sq_out q]
      refine ⟨ih.1, fun x hx => by have := ih.2.1 x hx; omega, fun j hj x h1 h2 => ?_⟩
      by_cases z : j = c
      · subst z
        rw [sq_st] at h1
        rw [if_pos rfl] at h2
        omega
      · rw [if_neg (by omega)] at h2
        rw [sq_st_ne z] at h1
        refine ih.2.2 j (by omega) x h1 ?_
        by_cases z2 : j + 1 = c
        · rw [if_pos z2]; rw [z2, sq_st] at h2; exact h2
        · rw [if_neg z2]; rw [sq_st_ne z2] at h2; exact h2
theorem sq_co {p : Nat → Nat} {al cs : Nat → Bool} {b : Nat} (hb : b ≤ 6) (hp : ∀ k, k < 10 → 1 ≤ p k) : coOk (sq p al cs b 8).2 (sq p al cs b 8).1 := by
  have h := sq_wf (b := b) (al := al) (cs := cs) hb hp 8
  have hm := sq_mono (p := p) (al := al) (cs := cs) (b := b) 8
  have h7 : (sq p al cs b 8).1 7 = (sq p al cs b 8).2.length := by
    rw [sq_st]
    exact congrArg List.length (sq_out (c := 7) (by omega)).symm
  have h0 : (sq p al cs b 8).1 0 = 0 := by
    rw [sq_st_ne (by decide), sq_st_ne (by decide), sq_st_ne (by decide), sq_st_ne (by decide), sq_st_ne (by decide), sq_st_ne (by decide), sq_st_ne (by decide), sq_st]
    rfl
  refine ⟨fun i hi => ?_, fun i j hij hj => hm.2 i j hij (by omega)⟩
  have hk : ∀ n, n ≤ 7 → i < (sq p al cs b 8).1 n → ∃ j, j < n ∧ (sq p al cs b 8).1 j ≤ i ∧ i < (sq p al cs b 8).1 (j + 1) := by
    intro n
    induction n with
    | zero => intro _ h9; rw [h0] at h9; exact absurd h9 (Nat.not_lt_zero _)
    | succ n ih =>
      intro hn h9
      rcases Nat.lt_or_ge i ((sq p al cs b 8).1 n) with z | z
      · obtain ⟨j, a1, a2⟩ := ih (by omega) z
        exact ⟨j, by omega, a2⟩
      · exact ⟨n, by omega, z, h9⟩
  obtain ⟨j, a1, a2, a3⟩ := hk 7 (Nat.le_refl _) (by rw [h7]; exact hi)
  have hj := h.2.2 j (by omega) i a2 (by rw [if_neg (by omega)]; exact a3)
  rw [hj]
  exact ⟨by omega, a2, fun _ => a3⟩

/-! the parts of an entry -/
def chd (es : List Ent) (i a : Nat) : Prop := a < es.length ∧ (∃ o, o < 10 ∧ eO es i = nI o) ∧ (eA es i = nI a ∨ eB es i = nI a)
def rch (es : List Ent) (e x : Nat) : Prop := ∀ S : Nat → Prop, S e → (∀ i a, S i → chd es i a → S a) → S x
theorem rch_self {es : List Ent} {e : Nat} : rch es e e := fun _ h _ => h
theorem rch_step {es : List Ent} {e i a : Nat} (h : rch es e i) (hc : chd es i a) : rch es e a := fun S h1 h2 => h2 i a (h S h1 h2) hc
theorem rch_lt {es : List Ent} {e x : Nat} (he : e < es.length) (h : rch es e x) : x < es.length := h (fun x => x < es.length) he (fun _ _ _ hc => hc.1)
theorem nI_ij {a b : Nat} (ha : a < 2 ^ 31) (hb : b < 2 ^ 31) (h : nI a = nI b) : a = b := by
  have h1 := nI_toInt ha
  have h2 := nI_toInt hb
  rw [h] at h1
  omega
theorem rch_le {es : List Ent} {e x : Nat} (hw : wfE es) (hl : es.length ≤ 2000) (he : e < es.length) (h : rch es e x) : x ≤ e := by
  have h1 := h (fun x => x ≤ e) (Nat.le_refl _) (fun i a hi hc => by
    obtain ⟨c1, ⟨o, ho, c2⟩, c3⟩ := hc
    rcases (hw i (by omega)).2 with ⟨z1, z2, z3⟩ | ⟨z1, ⟨v, hv, z2⟩, z3⟩ | ⟨o2, a2, ho2, z1, z2, z3, z4, z5⟩ | ⟨o2, a2, b2, ho2, ho3, z1, z2, z3, z4, z5, z6⟩
    · rw [z1] at c2; exact absurd c2.symm (nI_m1 (by omega))
    · rw [z1] at c2
      have h1 := nI_toInt (n := o) (by omega)
      rw [← c2] at h1
      have h2 : (-2 : Int32).toInt = -2 := by decide
      omega
    · rcases c3 with q | q
      · rw [z3] at q; have := nI_ij (by omega) (by omega) q; omega
      · rw [z4] at q; exact absurd q.symm (nI_m1 (by omega))
    · rcases c3 with q | q
      · rw [z3] at q; have := nI_ij (by omega) (by omega) q; omega
      · rw [z5] at q; have := nI_ij (by omega) (by omega) q; omega)
  exact h1
theorem nd_le : ∀ (n : Nat) (g : Nat → Nat) (l : List Nat), (∀ i j, i < n → j < n → g i = g j → i = j) → (∀ i, i < n → g i ∈ l) → n ≤ l.length
  | 0, _, _, _, _ => Nat.zero_le _
  | n + 1, g, l, hi, hm => by
    obtain ⟨s, t, rfl⟩ := List.append_of_mem (hm n (by omega))
    have h := nd_le n g (s ++ t) (fun i j h1 h2 e => hi i j (by omega) (by omega) e) (fun i h1 => by
      have h2 := hm i (by omega)
      rw [List.mem_append, List.mem_cons] at h2
      rw [List.mem_append]
      rcases h2 with q | q | q
      · exact Or.inl q
      · exact absurd (hi i n (by omega) (by omega) q) (by omega)
      · exact Or.inr q)
    rw [List.length_append] at h ⊢
    rw [List.length_cons]
    omega
theorem rch_lst {es : List Ent} (hw : wfE es) (hl : es.length ≤ 2000) : ∀ m e, e < m → e < es.length → ∃ L : List Nat, L.length ≤ 2 * eC es e + 1 ∧ e ∈ L ∧ ∀ x a, x ∈ L → chd es x a → a ∈ L
  | 0, e, h, _ => absurd h (Nat.not_lt_zero e)
  | m + 1, e, h, he => by
    rcases (hw e he).2 with ⟨z1, z2, z3⟩ | ⟨z1, ⟨v, hv, z2⟩, z3⟩ | ⟨o2, a2, ho2, z1, z2, z3, z4, z5⟩ | ⟨o2, a2, b2, ho2, ho3, z1, z2, z3, z4, z5, z6⟩
    · refine ⟨[e], by simp, by simp, fun x a hx hc => ?_⟩
      obtain ⟨-, ⟨o, ho, c2⟩, -⟩ := hc
      rw [List.mem_singleton.mp hx, z1] at c2; exact absurd c2.symm (nI_m1 (by omega))
    · refine ⟨[e], by simp, by simp, fun x a hx hc => ?_⟩
      obtain ⟨-, ⟨o, ho, c2⟩, -⟩ := hc
      rw [List.mem_singleton.mp hx, z1] at c2
      have h1 := nI_toInt (n := o) (by omega); rw [← c2] at h1; have h2 : (-2 : Int32).toInt = -2 := by decide
      omega
    · obtain ⟨L, l1, l2, l3⟩ := rch_lst hw hl m a2 (by omega) (by omega)
      refine ⟨e :: L, by rw [List.length_cons]; omega, List.mem_cons_self, fun x a hx hc => ?_⟩
      rcases List.mem_cons.mp hx with rfl | hx
      · obtain ⟨c1, -, c3⟩ := hc
        rcases c3 with q | q
        · rw [z3] at q; rw [← nI_ij (by omega) (by omega) q]; exact List.mem_cons_of_mem _ l2
        · rw [z4] at q; exact absurd q.symm (nI_m1 (by omega))
      · exact List.mem_cons_of_mem _ (l3 x a hx hc)
    · obtain ⟨L, l1, l2, l3⟩ := rch_lst hw hl m a2 (by omega) (by omega)
      obtain ⟨M, m1, m2, m3⟩ := rch_lst hw hl m b2 (by omega) (by omega)
      refine ⟨e :: (L ++ M), by rw [List.length_cons, List.length_append]; omega, List.mem_cons_self, fun x a hx hc => ?_⟩
      rcases List.mem_cons.mp hx with rfl | hx
      · obtain ⟨c1, -, c3⟩ := hc
        rcases c3 with q | q
        · rw [z3] at q; rw [← nI_ij (by omega) (by omega) q]; exact List.mem_cons_of_mem _ (List.mem_append_left _ l2)
        · rw [z5] at q; rw [← nI_ij (by omega) (by omega) q]; exact List.mem_cons_of_mem _ (List.mem_append_right _ m2)
      · rcases List.mem_append.mp hx with hx | hx
        · exact List.mem_cons_of_mem _ (List.mem_append_left _ (l3 x a hx hc))
        · exact List.mem_cons_of_mem _ (List.mem_append_right _ (m3 x a hx hc))
/-- n different parts g 0, g 1 .. -/
def pOk (es : List Ent) (e n : Nat) (g : Nat → Nat) : Prop := (∀ i j, i < n → j < n → g i = g j → i = j) ∧ ∀ i, i < n → rch es e (g i)
theorem pOk_13 {es : List Ent} {e n : Nat} {g : Nat → Nat} (hw : wfE es) (hl : es.length ≤ 2000) (he : e < es.length) (h : pOk es e n g) : n ≤ 13 := by
  obtain ⟨L, l1, l2, l3⟩ := rch_lst hw hl (e + 1) e (by omega) he
  have h1 := nd_le n g L h.1 (fun i hi => h.2 i hi (fun x => x ∈ L) l2 (fun i a hi hc => l3 i a hi hc))
  have h2 := (hw e he).1
  omega
theorem pOk_put {es : List Ent} {e n q : Nat} {g : Nat → Nat} (h : pOk es e n g) (hq : rch es e q) (hn : ∀ i, i < n → g i ≠ q) : pOk es e (n + 1) (va_up g n q) := by
  refine ⟨fun i j hi hj e => ?_, fun i hi => ?_⟩
  · rcases Nat.lt_or_ge i n with a | a <;> rcases Nat.lt_or_ge j n with b | b
    · rw [va_up_ne _ _ (by omega), va_up_ne _ _ (by omega)] at e; exact h.1 i j a b e
    · obtain rfl : j = n := by omega
      rw [va_up_ne _ _ (by omega), va_up_self] at e; exact absurd e (hn i a)
    · obtain rfl : i = n := by omega
      rw [va_up_self, va_up_ne _ _ (by omega)] at e; exact absurd e.symm (hn j b)
    · omega
  · rcases Nat.lt_or_ge i n with a | a
    · rw [va_up_ne _ _ (by omega)]; exact h.2 i a
    · obtain rfl : i = n := by omega
      rw [va_up_self]; exact hq
/-- the number of the parts -/
def prt (es : List Ent) (e n : Nat) : Prop := ∃ g : Nat → Nat, (∀ i j, i < n → j < n → g i = g j → i = j) ∧ ∀ x, rch es e x ↔ ∃ i, i < n ∧ x = g i
theorem prt_le {es : List Ent} {e n m : Nat} (h : prt es e n) (h' : prt es e m) : n ≤ m := by
  obtain ⟨g, g1, g2⟩ := h
  obtain ⟨k, k1, k2⟩ := h'
  have h1 := nd_le n g ((List.range m).map k) g1 (fun i hi => by
    obtain ⟨j, hj, e⟩ := (k2 (g i)).mp ((g2 (g i)).mpr ⟨i, hi, rfl⟩)
    rw [e]
    exact List.mem_map.mpr ⟨j, List.mem_range.mpr hj, rfl⟩)
  rwa [List.length_map, List.length_range] at h1
theorem prt_eq {es : List Ent} {e n m : Nat} (h : prt es e n) (h' : prt es e m) : n = m := Nat.le_antisymm (prt_le h h') (prt_le h' h)
theorem prt_of {es : List Ent} {e n : Nat} {g : Nat → Nat} (h : pOk es e n g) (h0 : ∃ i, i < n ∧ e = g i) (hc : ∀ i, i < n → ∀ a, chd es (g i) a → ∃ j, j < n ∧ a = g j) : prt es e n :=
  ⟨g, h.1, fun x => ⟨fun hx => hx (fun x => ∃ i, i < n ∧ x = g i) h0 (fun y a ⟨i, hi, e⟩ hy => hc i hi a (by rw [← e]; exact hy)), fun ⟨i, hi, e⟩ => by rw [e]; exact h.2 i hi⟩⟩
theorem wf_par {es : List Ent} {i : Nat} (hw : wfE es) (hl : es.length ≤ 2000) (hi : i < es.length) (ho : 0 ≤ (eO es i).toInt) : (∃ a, chd es i a ∧ eA es i = nI a) ∧ (eB es i = -1 ∨ ∃ b, chd es i b ∧ eB es i = nI b) := by
  rcases (hw i hi).2 with ⟨z1, z2, z3⟩ | ⟨z1, ⟨v, hv, z2⟩, z3⟩ | ⟨o2, a2, ho2, z1, z2, z3, z4, z5⟩ | ⟨o2, a2, b2, ho2, ho3, z1, z2, z3, z4, z5, z6⟩
  · rw [z1] at ho; exact absurd ho (by decide)
  · rw [z1] at ho; exact absurd ho (by decide)
  · exact ⟨⟨a2, ⟨by omega, ⟨o2, by omega, z1⟩, Or.inl z3⟩, z3⟩, Or.inl z4⟩
  · exact ⟨⟨a2, ⟨by omega, ⟨o2, by omega, z1⟩, Or.inl z3⟩, z3⟩, Or.inr ⟨b2, ⟨by omega, ⟨o2, by omega, z1⟩, Or.inr z5⟩, z5⟩⟩
theorem chd_no {es : List Ent} {i a : Nat} (h : (eO es i).toInt < 0) (hc : chd es i a) : False := by
  obtain ⟨-, ⟨o, ho, c2⟩, -⟩ := hc
  rw [c2, nI_toInt (by omega)] at h
  omega
theorem pin {n q : Nat} {g : Nat → Nat} (h : ¬ ∀ i, i < n → g i ≠ q) : ∃ i, i < n ∧ nI q = nI (g i) := by
  apply Classical.byContradiction
  intro h2
  exact h (fun i hi e => h2 ⟨i, hi, by rw [e]⟩)
theorem pv_m1 {es : List Ent} {en : Nat} {pv : Int32} (hl : es.length ≤ 2000) (he : en < es.length) (h : pv = -1 ∨ ∃ q, pv = nI q ∧ rch es en q) (hf : pv.toInt < 0 ∨ (es.length : Int) ≤ pv.toInt) : pv = -1 := by
  rcases h with h | ⟨q, rfl, h⟩
  · exact h
  · have h1 := rch_lt he h
    rw [nI_toInt (by omega)] at hf
    omega
theorem pv_q {es : List Ent} {en i : Nat} (hl : es.length ≤ 2000) (he : en < es.length) (hi : i < es.length) (h : nI i = -1 ∨ ∃ q, nI i = nI q ∧ rch es en q) : rch es en i := by
  rcases h with h | ⟨q, h1, h⟩
  · exact absurd h (nI_m1 (by omega))
  · have h2 := rch_lt he h
    rw [nI_ij (by omega) (by omega) h1]
    exact h
/-- the settings' digest -/
def dgQ (p2 : Nat → Nat) (al : Nat → Bool) (d : Int64) : Nat → Int64 | 0 => d | i + 1 => dg1 (dg1 (dgQ p2 al d i) (lN (p2 i))) (lN (al i).toNat)
def dgB (cs : Nat → Bool) (d : Int64) : Nat → Int64 | 0 => d | i + 1 => dg1 (dgB cs d i) (lN (cs i).toNat)
theorem l1_t {b : Bool} (h : ¬ b.toNat = 0) : (1 : Int64) = lN b.toNat := by rw [b_t h]; rfl
theorem l0_f {b : Bool} (h : b.toNat = 0) : (0 : Int64) = lN b.toNat := by rw [h]; rfl
/-- what an entry tells -/
def tlV (es : List Ent) (k q : Nat) : Int32 := match q with | 0 => nI (eC es k) | 1 => eO es k | 2 => eA es k | _ => eB es k
/-- four bytes more on the tape -/
def ap4 (tb : Nat → Nat) (tl : Nat) (x : Int32) : Nat → Nat := va_up (va_up (va_up (va_up tb tl (byN x 24)) (tl + 1) (byN x 16)) (tl + 2) (byN x 8)) (tl + 3) (byN x 0)
theorem ap4_lt {tb : Nat → Nat} (h : ∀ i, tb i < 256) (tl : Nat) (x : Int32) : ∀ i, ap4 tb tl x i < 256 := by
  intro i
  have h1 := byN_lt x 24
  have h2 := byN_lt x 16
  have h3 := byN_lt x 8
  have h4 := byN_lt x 0
  have h5 := h i
  unfold ap4 va_up
  split
  · exact h4
  · split
    · exact h3
    · split
      · exact h2
      · split
        · exact h1
        · exact h5
theorem m1_or {en : Int32} (n : Nat) (hn : n ≤ 2000) : (∃ k, k < n ∧ en = nI k) ∨ (en.toInt < 0 ∨ (n : Int) ≤ en.toInt) := by
  rcases in_or (x := en) n with ⟨k, hk, rfl⟩ | h
  · rcases Nat.lt_or_ge k n with z | z
    · exact Or.inl ⟨k, z, rfl⟩
    · exact Or.inr (Or.inr (by rw [nI_toInt (by omega)]; omega))
  · exact Or.inr (by omega)

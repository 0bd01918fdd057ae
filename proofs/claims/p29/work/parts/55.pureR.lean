/-! what the reference's methods answer, as they reckon it -/
def mmN (f : Int64) (k : Nat) : Nat → Int32 | 0 => nI 0 | i + 1 => mmN f k i + (if k = 0 then (if nib f i = i then nI 1 else nI 0) else ibc (nI (nib f i ^^^ i)))
theorem mm_a {f : Int64} {k i : Nat} (h : k = 0) (h2 : nib f i = i) : mmN f k i + nI 1 = mmN f k (i + 1) := by
  show _ = mmN f k i + (if k = 0 then (if nib f i = i then nI 1 else nI 0) else ibc (nI (nib f i ^^^ i)))
  rw [if_pos h, if_pos h2]
theorem mm_b {f : Int64} {k i : Nat} (h : k = 0) (h2 : ¬ nib f i = i) : mmN f k i + nI 0 = mmN f k (i + 1) := by
  show _ = mmN f k i + (if k = 0 then (if nib f i = i then nI 1 else nI 0) else ibc (nI (nib f i ^^^ i)))
  rw [if_pos h, if_neg h2]
theorem mm_c {f : Int64} {k i : Nat} (h : ¬ k = 0) : mmN f k i + ibc (nI (nib f i ^^^ i)) = mmN f k (i + 1) := by
  show _ = mmN f k i + (if k = 0 then (if nib f i = i then nI 1 else nI 0) else ibc (nI (nib f i ^^^ i)))
  rw [if_neg h]
def msM (f : Int64) (k : Nat) (r : Int32) : Prop := if k = 1 then r = ibc (nI (imF f 65535)) else if k = 3 then r = ibc (nI (itF f 16)) else if k = 4 then ∃ n, r = nI n ∧ isStp f n else r = mmN f k 16
theorem ms_1 {f : Int64} {k : Nat} {r : Int32} (h : k = 1) (hr : r = ibc (nI (imF f 65535))) : msM f k r := by unfold msM; rw [if_pos h]; exact hr
theorem ms_3 {f : Int64} {k : Nat} {r : Int32} (h : k = 3) (hr : r = ibc (nI (itF f 16))) : msM f k r := by unfold msM; rw [if_neg (by omega), if_pos h]; exact hr
theorem ms_4 {f : Int64} {k n : Nat} {r : Int32} (h : k = 4) (hr : r = nI n) (hn : isStp f n) : msM f k r := by unfold msM; rw [if_neg (by omega), if_neg (by omega), if_pos h]; exact ⟨n, hr, hn⟩
theorem ms_0 {f : Int64} {k : Nat} {r : Int32} (h1 : ¬ k = 1) (h3 : ¬ k = 3) (h4 : ¬ k = 4) (hr : r = mmN f k 16) : msM f k r := by unfold msM; rw [if_neg h1, if_neg h3, if_neg h4]; exact hr
noncomputable def isM (f : Int64) (w : Nat) : Bool := deB (∀ j, j < 256 → ifB f w (j / 16) (j % 16) = true)
theorem is_s {P : Nat → Prop} {i : Nat} {c : Prop} (h : ∀ j, j < i → P j) (hc : c ↔ P i) : c ↔ ∀ j, j < i + 1 → P j := by
  constructor
  · intro h1 j hj
    rcases Nat.lt_or_ge j i with q | q
    · exact h j q
    · rw [show j = i by omega]; exact hc.mp h1
  · intro h1
    exact hc.mpr (h1 i (by omega))
theorem is_e {f : Int64} {w i : Nat} {b : Bool} (hb : b = true ↔ ∀ j, j < i → ifB f w (j / 16) (j % 16) = true) (hi : i ≤ 256) (hx : 256 ≤ i ∨ b = false) : b = isM f w := by
  rcases hx with hx | hx
  · obtain rfl : i = 256 := by omega
    cases b with
    | true => exact (deB_t (hb.mp rfl)).symm
    | false => exact (deB_f (fun z => Bool.false_ne_true (hb.mpr z))).symm
  · subst hx
    refine (deB_f (fun z => Bool.false_ne_true (hb.mpr (fun j hj => z j (by omega))))).symm
def ctC (es : List Ent) (k : Nat) : Nat → Nat | 0 => 0 | i + 1 => ctC es k i + (if eC es i = k then 1 else 0)
theorem ct_1 {es : List Ent} {k i : Nat} (h : eC es i = k) : nI (ctC es k i) + nI 1 = nI (ctC es k (i + 1)) := by
  rw [nI_add]; show nI (ctC es k i + 1) = nI (ctC es k i + (if eC es i = k then 1 else 0)); rw [if_pos h]
theorem ct_0 {es : List Ent} {k i : Nat} (h : ¬ eC es i = k) : nI (ctC es k i) + nI 0 = nI (ctC es k (i + 1)) := by
  rw [nI_add]; show nI (ctC es k i + 0) = nI (ctC es k i + (if eC es i = k then 1 else 0)); rw [if_neg h]
def scT (es : List Ent) : Nat → Nat | 0 => 0 | i + 1 => scT es i + eC es i
theorem scT_le {es : List Ent} (hw : wfE es) : ∀ i, i ≤ es.length → scT es i ≤ 6 * i
  | 0, _ => Nat.le_refl 0
  | i + 1, h => by
    have h1 := scT_le hw i (by omega)
    have h2 := (hw i (by omega)).1
    show scT es i + eC es i ≤ _
    omega
theorem isE {en : Int32} {n : Nat} (hn : n ≤ 2000) : inB en (nI 0) (nI n - nI 1) = hsB en n := by
  have h1 := m1_int (m := n) (by omega)
  have h0 : (nI 0).toInt = 0 := nI_toInt (by decide)
  by_cases h : 0 ≤ en.toInt ∧ en.toInt < n
  · rw [hs_t h.1 h.2, in_t (by omega) (by omega)]
  · rw [hs_f (by omega), in_f (by omega)]
theorem dec1 (m : Nat) : nI m + Int32.ofInt (-1) = nI m - nI 1 := by
  rw [Int32.sub_eq_add_neg]; rfl
theorem chd_lt {es : List Ent} {i a : Nat} (hw : wfE es) (hl : es.length ≤ 2000) (hi : i < es.length) (hc : chd es i a) : a < i := by
  have h1 := rch_le hw hl hi (rch_step rch_self hc)
  rcases Nat.lt_or_ge a i with q | q
  · exact q
  · obtain rfl : a = i := by omega
    obtain ⟨c1, ⟨o, ho, c2⟩, c3⟩ := hc
    rcases (hw a (by omega)).2 with ⟨z1, z2, z3⟩ | ⟨z1, ⟨v, hv, z2⟩, z3⟩ | ⟨o2, a2, ho2, z1, z2, z3, z4, z5⟩ | ⟨o2, a2, b2, ho2, ho3, z1, z2, z3, z4, z5, z6⟩
    · rw [z1] at c2; exact absurd c2.symm (nI_m1 (by omega))
    · rw [z1] at c2
      have h1 := nI_toInt (n := o) (by omega)
      rw [← c2] at h1
      have h2 : (-2 : Int32).toInt = -2 := by decide
      omega
    · rcases c3 with q | q
      · rw [z3] at q; have := nI_ij (by omega) (by omega) q; omega
      · rw [z4] at q; exact absurd q.symm (nI_m1 (by omega))
    · rcases c3 with q | q
      · rw [z3] at q; have := nI_ij (by omega) (by omega) q; omega
      · rw [z5] at q; have := nI_ij (by omega) (by omega) q; omega
/-- the marks, when the entries from m on are done: c of them were marked -/
def mkOk (es : List Ent) (k m : Nat) (mk : Nat → Bool) (c : Nat) : Prop := m ≤ k + 1 ∧ (∀ i, i ≤ k → mk i = true → rch es k i) ∧ (∀ i a, m ≤ i → i ≤ k → mk i = true → chd es i a → mk a = true) ∧ mk k = true ∧ ∃ g : Nat → Nat, (∀ i j, i < c → j < c → g i = g j → i = j) ∧ ∀ x, (m ≤ x ∧ x ≤ k ∧ mk x = true) ↔ ∃ i, i < c ∧ x = g i
theorem mk_ini {es : List Ent} {k : Nat} : mkOk es k (k + 1) (va_up (fun _ => false) k true) 0 := by
  refine ⟨Nat.le_refl _, fun i hi h => ?_, fun i a h1 h2 => absurd h1 (by omega), va_up_self _ _ _, fun _ => 0, fun i j h => absurd h (Nat.not_lt_zero i), fun x => ⟨fun h => absurd h.1 (by omega), fun ⟨i, h, _⟩ => absurd h (Nat.not_lt_zero i)⟩⟩
  by_cases q : i = k
  · rw [q]; exact rch_self
  · rw [va_up_ne _ _ q] at h; exact absurd h Bool.false_ne_true
theorem mk_skip {es : List Ent} {k m c : Nat} {mk : Nat → Bool} (h : mkOk es k m mk c) (h0 : 0 < m) (hm : ¬ mk (m - 1) = true) : mkOk es k (m - 1) mk c := by
  obtain ⟨h1, h2, h3, h4, g, h5, h6⟩ := h
  refine ⟨by omega, h2, fun i a hi hk hmk hc => ?_, h4, g, h5, fun x => ⟨fun hx => ?_, fun hx => ?_⟩⟩
  · by_cases q : i = m - 1
    · rw [q] at hmk; exact absurd hmk hm
    · exact h3 i a (by omega) hk hmk hc
  · refine (h6 x).mp ⟨?_, hx.2.1, hx.2.2⟩
    by_cases q : x = m - 1
    · rw [q] at hx; exact absurd hx.2.2 hm
    · omega
  · have h7 := (h6 x).mpr hx
    exact ⟨by omega, h7.2⟩
/-- the entry m - 1, which is marked, is counted, and its children are marked -/
theorem mk_do {es : List Ent} {k m c : Nat} {mk mk' : Nat → Bool} (h : mkOk es k m mk c) (h0 : 0 < m) (hm : mk (m - 1) = true) (e1 : ∀ x, mk' x = true ↔ (mk x = true ∨ (x < m - 1 ∧ chd es (m - 1) x))) (e2 : ∀ x, chd es (m - 1) x → x < m - 1) : mkOk es k (m - 1) mk' (c + 1) := by
  obtain ⟨h1, h2, h3, h4, g, h5, h6⟩ := h
  have hold : ∀ x, m - 1 ≤ x → mk' x = true → mk x = true := fun x hx hmk => by
    rcases (e1 x).mp hmk with q | q
    · exact q
    · omega
  refine ⟨by omega, fun i hi hmk => ?_, fun i a hi hk hmk hc => ?_, (e1 k).mpr (Or.inl h4), va_up g c (m - 1), fun i j hi hj e => ?_, fun x => ⟨fun hx => ?_, fun hx => ?_⟩⟩
  · rcases (e1 i).mp hmk with q | q
    · exact h2 i hi q
    · exact rch_step (h2 (m - 1) (by omega) hm) q.2
  · have q := hold i hi hmk
    by_cases z : i = m - 1
    · rw [z] at hc; exact (e1 a).mpr (Or.inr ⟨e2 a hc, hc⟩)
    · exact (e1 a).mpr (Or.inl (h3 i a (by omega) hk q hc))
  · have hg : ∀ i, i < c → g i ≠ m - 1 := fun i hi z => by
      have := ((h6 (g i)).mpr ⟨i, hi, rfl⟩).1
      omega
    rcases Nat.lt_or_ge i c with a | a <;> rcases Nat.lt_or_ge j c with b | b
    · rw [va_up_ne _ _ (by omega), va_up_ne _ _ (by omega)] at e; exact h5 i j a b e
    · obtain rfl : j = c := by omega
      rw [va_up_ne _ _ (by omega), va_up_self] at e; exact absurd e (hg i a)
    · obtain rfl : i = c := by omega
      rw [va_up_self, va_up_ne _ _ (by omega)] at e; exact absurd e.symm (hg j b)
    · omega
  · by_cases z : x = m - 1
    · exact ⟨c, by omega, by rw [va_up_self]; exact z⟩
    · obtain ⟨i, hi, e⟩ := (h6 x).mp ⟨by omega, hx.2.1, hold x (by omega) hx.2.2⟩
      exact ⟨i, by omega, by rw [va_up_ne _ _ (by omega)]; exact e⟩
  · obtain ⟨i, hi, e⟩ := hx
    rcases Nat.lt_or_ge i c with a | a
    · rw [va_up_ne _ _ (by omega)] at e
      have h7 := (h6 x).mpr ⟨i, a, e⟩
      exact ⟨by omega, h7.2.1, (e1 x).mpr (Or.inl h7.2.2)⟩
    · obtain rfl : i = c := by omega
      rw [va_up_self] at e
      rw [e]
      exact ⟨Nat.le_refl _, by omega, (e1 _).mpr (Or.inl hm)⟩
theorem mk_end {es : List Ent} {k c : Nat} {mk : Nat → Bool} (hw : wfE es) (hl : es.length ≤ 2000) (hk : k < es.length) (h : mkOk es k 0 mk c) : prt es k c := by
  obtain ⟨h1, h2, h3, h4, g, h5, h6⟩ := h
  refine ⟨g, h5, fun x => ⟨fun hx => ?_, fun hx => ?_⟩⟩
  · have h7 := hx (fun x => x ≤ k ∧ mk x = true) ⟨Nat.le_refl _, h4⟩ (fun i a hi hc => ⟨by have := chd_lt hw hl (by omega) hc; omega, h3 i a (by omega) hi.1 hi.2 hc⟩)
    exact (h6 x).mp ⟨by omega, h7⟩
  · have h7 := (h6 x).mpr hx
    exact h2 x h7.2.1 h7.2.2
theorem up_t {mk : Nat → Bool} {a x : Nat} : va_up mk a true x = true ↔ (mk x = true ∨ x = a) := by
  by_cases q : x = a
  · rw [q, va_up_self]; simp
  · rw [va_up_ne _ _ q]; simp [q]
theorem mk_no {es : List Ent} {k m c : Nat} {mk : Nat → Bool} (h : mkOk es k m mk c) (h0 : 0 < m) (hm : mk (m - 1) = true) (ho : (eO es (m - 1)).toInt < 0) : mkOk es k (m - 1) mk (c + 1) :=
  mk_do h h0 hm (fun x => ⟨Or.inl, fun z => z.elim id (fun z => (chd_no ho z.2).elim)⟩) (fun x hc => (chd_no ho hc).elim)
theorem mk_1 {es : List Ent} {k m c a : Nat} {mk : Nat → Bool} (hw : wfE es) (hl : es.length ≤ 2000) (hk : k < es.length) (h : mkOk es k m mk c) (h0 : 0 < m) (hm : mk (m - 1) = true) (ha : chd es (m - 1) a) (hea : eA es (m - 1) = nI a) (heb : eB es (m - 1) = -1) : mkOk es k (m - 1) (va_up mk a true) (c + 1) := by
  have hlt : ∀ x, chd es (m - 1) x → x < m - 1 := fun x hx => chd_lt hw hl (by have := h.1; omega) hx
  refine mk_do h h0 hm (fun x => ⟨fun z => ?_, fun z => ?_⟩) hlt
  · rcases up_t.mp z with q | q
    · exact Or.inl q
    · rw [q]; exact Or.inr ⟨hlt a ha, ha⟩
  · refine up_t.mpr (z.elim Or.inl (fun q => ?_))
    rcases q.2.2.2 with y | y
    · rw [hea] at y; exact Or.inr (nI_ij (by have := q.2.1; omega) (by have := ha.1; omega) y.symm)
    · rw [heb] at y; exact absurd y.symm (nI_m1 (by have := q.2.1; omega))
theorem mk_2 {es : List Ent} {k m c a b : Nat} {mk : Nat → Bool} (hw : wfE es) (hl : es.length ≤ 2000) (hk : k < es.length) (h : mkOk es k m mk c) (h0 : 0 < m) (hm : mk (m - 1) = true) (ha : chd es (m - 1) a) (hea : eA es (m - 1) = nI a) (hb : chd es (m - 1) b) (heb : eB es (m - 1) = nI b) : mkOk es k (m - 1) (va_up (va_up mk a true) b true) (c + 1) := by
  have hlt : ∀ x, chd es (m - 1) x → x < m - 1 := fun x hx => chd_lt hw hl (by have := h.1; omega) hx
  refine mk_do h h0 hm (fun x => ⟨fun z => ?_, fun z => ?_⟩) hlt
  · rcases up_t.mp z with q | q
    · rcases up_t.mp q with q | q
      · exact Or.inl q
      · rw [q]; exact Or.inr ⟨hlt a ha, ha⟩
    · rw [q]; exact Or.inr ⟨hlt b hb, hb⟩
  · refine up_t.mpr (z.elim (fun q => Or.inl (up_t.mpr (Or.inl q))) (fun q => ?_))
    rcases q.2.2.2 with y | y
    · rw [hea] at y; exact Or.inl (up_t.mpr (Or.inr (nI_ij (by have := q.2.1; omega) (by have := ha.1; omega) y.symm)))
    · rw [heb] at y; exact Or.inr (nI_ij (by have := q.2.1; omega) (by have := hb.1; omega) y.symm)
/-- the digest, entry by entry -/
def dgT (es : List Ent) (i : Nat) (d : Int64) : Nat → Int64 | 0 => d | j + 1 => dg1 (dgT es i d j) (Int32.toInt64 (tlV es i j))
theorem dgT_4 {es : List Ent} {i : Nat} {d : Int64} (h : eC es i < 2 ^ 31) : dgT es i (dg1 (dgE es d i) (eF es i)) 4 = dgE es d (i + 1) := by
  show dg1 (dg1 (dg1 (dg1 (dg1 (dgE es d i) (eF es i)) (Int32.toInt64 (nI (eC es i)))) _) _) _ = dg1 (dg1 (dg1 (dg1 (dg1 (dgE es d i) (eF es i)) (lN (eC es i))) _) _) _
  rw [nI_l h]
  rfl
/-- five ints, and the tape behind them -/
def vf5 (i1 i2 i3 i4 i5 : Int32) : Nat → Int32 := fun j => match j with | 0 => i1 | 1 => i2 | 2 => i3 | 3 => i4 | _ => i5
def apV (tb : Nat → Nat) (tl : Nat) (v : Nat → Int32) : Nat → (Nat → Nat) | 0 => tb | i + 1 => ap4 (apV tb tl v i) (tl + 4 * i) (v i)
theorem apV_5 {tb : Nat → Nat} {tl : Nat} {i1 i2 i3 i4 i5 : Int32} : apV tb tl (vf5 i1 i2 i3 i4 i5) 5 = ap4 (ap4 (ap4 (ap4 (ap4 tb tl i1) (tl + 4) i2) (tl + 4 + 4) i3) (tl + 4 + 4 + 4) i4) (tl + 4 + 4 + 4 + 4) i5 := rfl
theorem vf5_ok {i1 i2 i3 i4 i5 : Int32} : ∀ i, i < 5 → upd (upd (upd (upd (upd (fun _ => 0) 0 i1) 1 i2) 2 i3) 3 i4) 4 i5 i = vf5 i1 i2 i3 i4 i5 i := by
  intro i hi
  rcases (show i = 0 ∨ i = 1 ∨ i = 2 ∨ i = 3 ∨ i = 4 by omega) with rfl | rfl | rfl | rfl | rfl <;> rfl
theorem dec3 {j : Nat} (h : j ≤ 3) : nI (3 - j) + Int32.ofInt (-1) = nI 3 - nI (j + 1) := by
  rcases (show j = 0 ∨ j = 1 ∨ j = 2 ∨ j = 3 by omega) with rfl | rfl | rfl | rfl <;> decide

/-! entries: function, cost, operation, first, second -/
abbrev Ent : Type := Int64 × Nat × Int32 × Int32 × Int32
def ent0 : Ent := (0, 0, 0, 0, 0)
def eF (es : List Ent) (i : Nat) : Int64 := (es.getD i ent0).1
def eC (es : List Ent) (i : Nat) : Nat := (es.getD i ent0).2.1
def eO (es : List Ent) (i : Nat) : Int32 := (es.getD i ent0).2.2.1
def eA (es : List Ent) (i : Nat) : Int32 := (es.getD i ent0).2.2.2.1
def eB (es : List Ent) (i : Nat) : Int32 := (es.getD i ent0).2.2.2.2
theorem ge_old {es : List Ent} {x : Ent} {i : Nat} (h : i < es.length) : (es ++ [x]).getD i ent0 = es.getD i ent0 := by
  simp [List.getD, List.getElem?_append_left h]
theorem ge_new {es : List Ent} {x : Ent} : (es ++ [x]).getD es.length ent0 = x := by
  simp [List.getD]
theorem len_app {es : List Ent} {x : Ent} : (es ++ [x]).length = es.length + 1 := by simp
def inE (es : List Ent) (f : Int64) : Prop := ∃ i, i < es.length ∧ eF es i = f
def ndE (es : List Ent) : Prop := ∀ i j, i < es.length → j < es.length → eF es i = eF es j → i = j
noncomputable def addE (f : Int64) (c : Nat) (o a b : Int32) (es : List Ent) : List Ent := if deB (es.length = 2000 ∨ inE es f) = true then es else es ++ [(f, c, o, a, b)]
theorem addE_old {f : Int64} {c : Nat} {o a b : Int32} {es : List Ent} (h : es.length = 2000 ∨ inE es f) : addE f c o a b es = es := if_pos (deB_t h)
theorem addE_new {f : Int64} {c : Nat} {o a b : Int32} {es : List Ent} (h1 : ¬ es.length = 2000) (h2 : ¬ inE es f) : addE f c o a b es = es ++ [(f, c, o, a, b)] := if_neg (by rw [deB_f (fun q => q.elim h1 h2)]; decide)
theorem addE_cases (f : Int64) (c : Nat) (o a b : Int32) (es : List Ent) : ((es.length = 2000 ∨ inE es f) ∧ addE f c o a b es = es) ∨ (¬ es.length = 2000 ∧ ¬ inE es f ∧ addE f c o a b es = es ++ [(f, c, o, a, b)]) := by
  by_cases h : es.length = 2000 ∨ inE es f
  · exact Or.inl ⟨h, addE_old h⟩
  · have h1 : ¬ es.length = 2000 := fun q => h (Or.inl q)
    have h2 : ¬ inE es f := fun q => h (Or.inr q)
    exact Or.inr ⟨h1, h2, addE_new h1 h2⟩
theorem nd_app {es : List Ent} {x : Ent} (h : ndE es) (hn : ¬ inE es x.1) : ndE (es ++ [x]) := by
  intro i j hi hj e
  rw [len_app] at hi hj
  unfold eF at e
  rcases Nat.lt_or_ge i es.length with hi2 | hi2 <;> rcases Nat.lt_or_ge j es.length with hj2 | hj2
  · rw [ge_old hi2, ge_old hj2] at e; exact h i j hi2 hj2 e
  · obtain rfl : j = es.length := by omega
    rw [ge_old hi2, ge_new] at e; exact absurd ⟨i, hi2, e⟩ hn
  · obtain rfl : i = es.length := by omega
    rw [ge_old hj2, ge_new] at e; exact absurd ⟨j, hj2, e.symm⟩ hn
  · omega
/-! a hash table with open places -/
theorem nI_m1 {i : Nat} (h : i < 2 ^ 31) : ¬ nI i = -1 := by
  intro q
  have h1 := nI_toInt h
  rw [q] at h1
  have h2 : (-1 : Int32).toInt = -1 := by decide
  omega
def hsh (f : Int64) : Nat := uN (f * (-7046029254386353131)) / 2 ^ 52
theorem hsh_lt (f : Int64) : hsh f < 4096 := by
  have h := uN_lt (f * (-7046029254386353131))
  unfold hsh
  omega
theorem hsh_ok (f : Int64) : Int64.toInt32 (j_ushr (f * (-7046029254386353131)) (nI 52)) = nI (hsh f) := by
  apply Int32.toBitVec_inj.mp
  apply BitVec.eq_of_toNat_eq
  have h := hsh_lt f
  rw [l2i_tn, uN_ushr _ (by decide), pk_tn (by omega)]
  exact Nat.mod_eq_of_lt (by unfold hsh at h; omega)
def ocN (sl : Nat → Int32) : Nat → Nat | 0 => 0 | k + 1 => ocN sl k + (if sl k = -1 then 0 else 1)
theorem ocN_upd {sl : Nat → Int32} {k : Nat} {v : Int32} (h : sl k = -1) (hv : ¬ v = -1) : ∀ n, ocN (upd sl k v) n = ocN sl n + (if k < n then 1 else 0)
  | 0 => rfl
  | n + 1 => by
    have ih := ocN_upd h hv n
    unfold ocN
    rw [ih]
    rcases Nat.lt_trichotomy k n with q | q | q
    · rw [pk_un (by omega), if_pos q, if_pos (show k < n + 1 by omega)]
      generalize (if sl n = -1 then 0 else 1) = z
      omega
    · subst q
      rw [pk_us, if_neg hv, if_neg (Nat.lt_irrefl k), h, if_pos (rfl : (-1 : Int32) = -1), if_pos (Nat.lt_succ_self k)]
    · rw [pk_un (by omega), if_neg (show ¬ k < n by omega), if_neg (show ¬ k < n + 1 by omega)]
      rfl
theorem ocN_full {sl : Nat → Int32} : ∀ n, (∀ k, k < n → ¬ sl k = -1) → ocN sl n = n
  | 0, _ => rfl
  | n + 1, h => by
    unfold ocN
    rw [ocN_full n (fun k hk => h k (by omega)), if_neg (h n (by omega))]
theorem ocN_none {sl : Nat → Int32} : ∀ n, (∀ k, k < n → sl k = -1) → ocN sl n = 0
  | 0, _ => rfl
  | n + 1, h => by
    unfold ocN
    rw [ocN_none n (fun k hk => h k (by omega)), if_pos (h n (by omega))]
def pathE (es : List Ent) (sl : Nat → Int32) (f : Int64) (n : Nat) : Prop := ∀ j, j < n → ∃ i, i < es.length ∧ sl ((hsh f + j) % 4096) = nI i ∧ ¬ eF es i = f
def hOk (es : List Ent) (sl : Nat → Int32) : Prop := (∀ k, k < 4096 → sl k = -1 ∨ ∃ i, i < es.length ∧ sl k = nI i) ∧ (∀ i, i < es.length → ∃ n, sl ((hsh (eF es i) + n) % 4096) = nI i ∧ pathE es sl (eF es i) n) ∧ ocN sl 4096 = es.length
theorem h_free {es : List Ent} {sl : Nat → Int32} {f : Int64} (h : hOk es sl) (hl : es.length ≤ 2000) : ¬ pathE es sl f 4096 := by
  intro hp
  have hf := ocN_full (sl := sl) 4096 (fun k hk => by
    have hs := hsh_lt f
    obtain ⟨i, h1, h2, -⟩ := hp ((k + 4096 - hsh f) % 4096) (Nat.mod_lt _ (by decide))
    rw [show (hsh f + (k + 4096 - hsh f) % 4096) % 4096 = k by omega] at h2
    rw [h2]
    exact nI_m1 (by omega))
  have h3 := h.2.2
  omega
theorem h_out {es : List Ent} {sl : Nat → Int32} {f : Int64} {n : Nat} (h : hOk es sl) (hl : es.length ≤ 2000) (hp : pathE es sl f n) (hk : sl ((hsh f + n) % 4096) = -1) : ¬ inE es f := by
  rintro ⟨i, hi, he⟩
  obtain ⟨m, h1, h2⟩ := h.2.1 i hi
  rw [he] at h1 h2
  rcases Nat.lt_trichotomy n m with q | q | q
  · obtain ⟨i2, g1, g2, -⟩ := h2 n q
    rw [hk] at g2
    exact nI_m1 (by omega) g2.symm
  · subst q
    rw [hk] at h1
    exact nI_m1 (by omega) h1.symm
  · obtain ⟨i2, g1, g2, g3⟩ := hp m q
    rw [h1] at g2
    have := (nI_eq (by omega) (by omega)).mp g2
    subst this
    exact g3 he
theorem path_keep {es : List Ent} {sl : Nat → Int32} {f : Int64} {n k : Nat} {x : Ent} {v : Int32} (hl : es.length ≤ 2000) (hp : pathE es sl f n) (hk : sl k = -1) : pathE (es ++ [x]) (upd sl k v) f n := by
  intro j hj
  obtain ⟨i, h1, h2, h3⟩ := hp j hj
  refine ⟨i, by rw [len_app]; omega, ?_, ?_⟩
  · rw [pk_un, h2]
    intro q
    rw [q, hk] at h2
    exact nI_m1 (by omega) h2.symm
  · unfold eF at h3 ⊢
    rw [ge_old h1]; exact h3
theorem h_put {es : List Ent} {sl : Nat → Int32} {n : Nat} {x : Ent} (h : hOk es sl) (hl : es.length < 2000) (hp : pathE es sl x.1 n) (hk : sl ((hsh x.1 + n) % 4096) = -1) : hOk (es ++ [x]) (upd sl ((hsh x.1 + n) % 4096) (nI es.length)) := by
  refine ⟨fun k hk2 => ?_, fun i hi => ?_, ?_⟩
  · by_cases q : k = (hsh x.1 + n) % 4096
    · rw [q, pk_us]; exact Or.inr ⟨es.length, by rw [len_app]; omega, rfl⟩
    · rw [pk_un q]
      rcases h.1 k hk2 with h1 | ⟨i, h1, h2⟩
      · exact Or.inl h1
      · exact Or.inr ⟨i, by rw [len_app]; omega, h2⟩
  · rw [len_app] at hi
    rcases Nat.lt_or_ge i es.length with q | q
    · obtain ⟨m, h1, h2⟩ := h.2.1 i q
      have e : eF (es ++ [x]) i = eF es i := by unfold eF; rw [ge_old q]
      rw [e]
      refine ⟨m, ?_, path_keep (by omega) h2 hk⟩
      rw [pk_un, h1]
      intro q2
      rw [q2, hk] at h1
      exact nI_m1 (by omega) h1.symm
    · obtain rfl : i = es.length := by omega
      have e : eF (es ++ [x]) es.length = x.1 := by unfold eF; rw [ge_new]
      rw [e]
      exact ⟨n, pk_us, path_keep (by omega) hp hk⟩
  · rw [ocN_upd hk (nI_m1 (by omega)), h.2.2, if_pos (Nat.mod_lt _ (by decide)), len_app]
theorem h_none {sl : Nat → Int32} (h : ∀ k, k < 4096 → sl k = -1) : hOk [] sl := ⟨fun k hk => Or.inl (h k hk), fun i hi => absurd hi (Nat.not_lt_zero _), ocN_none 4096 h⟩
/-! the last place of a function -/
def fnN (es : List Ent) (f : Int64) : Nat → Nat | 0 => 0 | n + 1 => if eF es n = f then n + 1 else fnN es f n
theorem fnN_le (es : List Ent) (f : Int64) : ∀ n, fnN es f n ≤ n
  | 0 => Nat.le_refl 0
  | n + 1 => by
    unfold fnN
    split
    · exact Nat.le_refl _
    · exact Nat.le_succ_of_le (fnN_le es f n)
theorem fnN_in {es : List Ent} {f : Int64} : ∀ {n : Nat}, 0 < fnN es f n → eF es (fnN es f n - 1) = f ∧ fnN es f n - 1 < n
  | 0, h => absurd h (Nat.lt_irrefl 0)
  | n + 1, h => by
    unfold fnN at h ⊢
    by_cases q : eF es n = f
    · rw [if_pos q]; exact ⟨q, Nat.lt_succ_self n⟩
    · rw [if_neg q] at h ⊢
      have := fnN_in (n := n) h
      exact ⟨this.1, by omega⟩
theorem fnN_0 {es : List Ent} {f : Int64} : ∀ {n : Nat}, fnN es f n = 0 → ∀ i, i < n → ¬ eF es i = f
  | 0, _, i, hi => absurd hi (Nat.not_lt_zero i)
  | n + 1, h, i, hi => by
    unfold fnN at h
    by_cases q : eF es n = f
    · rw [if_pos q] at h; exact absurd h (Nat.succ_ne_zero n)
    · rw [if_neg q] at h
      rcases Nat.lt_or_ge i n with z | z
      · exact fnN_0 h i z
      · rw [show i = n by omega]; exact q
theorem fn_at {es : List Ent} {f : Int64} {i : Nat} (hd : ndE es) (hi : i < es.length) (he : eF es i = f) : fnN es f es.length = i + 1 := by
  rcases Nat.eq_zero_or_pos (fnN es f es.length) with q | q
  · exact absurd he (fnN_0 q i hi)
  · obtain ⟨h1, h2⟩ := fnN_in q
    have := hd _ _ h2 hi (h1.trans he.symm)
    omega
theorem fn_no {es : List Ent} {f : Int64} (h : ¬ inE es f) : fnN es f es.length = 0 := by
  rcases Nat.eq_zero_or_pos (fnN es f es.length) with q | q
  · exact q
  · obtain ⟨h1, h2⟩ := fnN_in q
    exact absurd ⟨_, h2, h1⟩ h
theorem fn_in {es : List Ent} {f : Int64} : (¬ fnN es f es.length = 0) ↔ inE es f := by
  constructor
  · intro h
    obtain ⟨h1, h2⟩ := fnN_in (Nat.pos_of_ne_zero h)
    exact ⟨_, h2, h1⟩
  · rintro ⟨i, h1, h2⟩ q
    exact fnN_0 q i h1 h2
/-! chains -/
def laN (es : List Ent) (c : Nat) : Nat → Nat | 0 => 0 | n + 1 => if chn (eF es n) = c then n + 1 else laN es c n
theorem laN_le (es : List Ent) (c : Nat) : ∀ n, laN es c n ≤ n
  | 0 => Nat.le_refl 0
  | n + 1 => by
    unfold laN
    split
    · exact Nat.le_refl _
    · exact Nat.le_succ_of_le (laN_le es c n)
theorem laN_in {es : List Ent} {c : Nat} : ∀ {n : Nat}, 0 < laN es c n → chn (eF es (laN es c n - 1)) = c
  | 0, h => absurd h (Nat.lt_irrefl 0)
  | n + 1, h => by
    unfold laN at h ⊢
    by_cases q : chn (eF es n) = c
    · rw [if_pos q]; exact q
    · rw [if_neg q] at h ⊢
      exact laN_in (n := n) h
/-- no function of the chain lies between -/
theorem fn_la {es : List Ent} {f : Int64} : ∀ n, fnN es f (laN es (chn f) n) = fnN es f n
  | 0 => rfl
  | n + 1 => by
    unfold laN
    by_cases q : chn (eF es n) = chn f
    · rw [if_pos q]
    · rw [if_neg q, fn_la n]
      have : ¬ eF es n = f := fun z => q (by rw [z])
      show _ = if eF es n = f then n + 1 else fnN es f n
      rw [if_neg this]
theorem laN_old {es : List Ent} {x : Ent} {c : Nat} : ∀ n, n ≤ es.length → laN (es ++ [x]) c n = laN es c n
  | 0, _ => rfl
  | n + 1, h => by
    unfold laN
    have e : eF (es ++ [x]) n = eF es n := by unfold eF; rw [ge_old (by omega)]
    rw [e, laN_old n (by omega)]
def cOk (es : List Ent) (la ah : Nat → Int32) : Prop := (∀ c, c < 1024 → la c = nI (laN es c es.length)) ∧ ∀ i, i < es.length → ah i = nI (laN es (chn (eF es i)) i)
theorem c_none {la ah : Nat → Int32} (h : ∀ c, c < 1024 → la c = 0) : cOk [] la ah := ⟨fun c hc => by rw [h c hc]; exact nI_0.symm, fun i hi => absurd hi (Nat.not_lt_zero _)⟩
theorem c_put {es : List Ent} {la ah : Nat → Int32} {x : Ent} (h : cOk es la ah) : cOk (es ++ [x]) (upd la (chn x.1) (nI (es.length + 1))) (upd ah es.length (la (chn x.1))) := by
  refine ⟨fun c hc => ?_, fun i hi => ?_⟩
  · rw [len_app]
    show _ = nI (if chn (eF (es ++ [x]) es.length) = c then es.length + 1 else laN (es ++ [x]) c es.length)
    have e : eF (es ++ [x]) es.length = x.1 := by unfold eF; rw [ge_new]
    rw [e]
    by_cases q : chn x.1 = c
    · subst q; rw [pk_us, if_pos rfl]
    · rw [pk_un (fun z => q z.symm), if_neg q, laN_old _ (Nat.le_refl _), h.1 c hc]
  · rw [len_app] at hi
    rcases Nat.lt_or_ge i es.length with q | q
    · have e : eF (es ++ [x]) i = eF es i := by unfold eF; rw [ge_old q]
      rw [pk_un (by omega), e, laN_old _ (by omega), h.2 i q]
    · obtain rfl : i = es.length := by omega
      have e : eF (es ++ [x]) es.length = x.1 := by unfold eF; rw [ge_new]
      rw [pk_us, e, laN_old _ (Nat.le_refl _), h.1 _ (chn_lt _)]
/-! rows of an array as the entries have them -/
def rOk (es : List Ent) (fF : Nat → Int64) (oF aF bF : Nat → Int32) : Prop := ∀ i, i < es.length → fF i = eF es i ∧ oF i = eO es i ∧ aF i = eA es i ∧ bF i = eB es i
theorem r_none {fF : Nat → Int64} {oF aF bF : Nat → Int32} : rOk [] fF oF aF bF := fun i hi => absurd hi (Nat.not_lt_zero _)
theorem r_put {es : List Ent} {fF : Nat → Int64} {oF aF bF : Nat → Int32} (h : rOk es fF oF aF bF) (f : Int64) (c : Nat) (o a b : Int32) : rOk (es ++ [(f, c, o, a, b)]) (vp_updL fF es.length f) (upd oF es.length o) (upd aF es.length a) (upd bF es.length b) := by
  intro i hi
  rw [len_app] at hi
  unfold eF eO eA eB
  rcases Nat.lt_or_ge i es.length with q | q
  · rw [pk_uLn (by omega), pk_un (by omega), pk_un (by omega), pk_un (by omega), ge_old q]
    exact h i q
  · obtain rfl : i = es.length := by omega
    rw [pk_uLs, pk_us, pk_us, pk_us, ge_new]
    exact ⟨rfl, rfl, rfl, rfl⟩

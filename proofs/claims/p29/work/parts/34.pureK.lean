/-! the tape, and what is read from it -/
abbrev Rd : Type := (Int64 × Nat) ⊕ Nat
def nxN (tb : Nat → Nat) : Nat → Nat → Nat
  | 0, p => p
  | n + 1, p => if tb p = 32 then nxN tb n (p + 1) else p
def nxt (tb : Nat → Nat) (tl p : Nat) : Nat := nxN tb (tl - p) p
theorem nxt_1 {tb : Nat → Nat} {tl p : Nat} (h : p < tl) (h2 : tb p = 32) : nxt tb tl p = nxt tb tl (p + 1) := by
  unfold nxt
  rw [show tl - p = (tl - (p + 1)) + 1 by omega]
  exact if_pos h2
theorem nxt_0 {tb : Nat → Nat} {tl p : Nat} (h : p < tl) (h2 : ¬ tb p = 32) : nxt tb tl p = p := by
  unfold nxt
  rw [show tl - p = (tl - (p + 1)) + 1 by omega]
  exact if_neg h2
theorem nxt_e {tb : Nat → Nat} {tl p : Nat} (h : tl ≤ p) : nxt tb tl p = p := by
  unfold nxt
  rw [show tl - p = 0 by omega]
  rfl
theorem nxN_le {tb : Nat → Nat} : ∀ n p, p ≤ nxN tb n p ∧ nxN tb n p ≤ p + n
  | 0, p => ⟨Nat.le_refl _, Nat.le_refl _⟩
  | n + 1, p => by
    unfold nxN
    split
    · have := nxN_le (tb := tb) n (p + 1); omega
    · omega
theorem nxt_le {tb : Nat → Nat} {tl p : Nat} (h : p ≤ tl) : nxt tb tl p ≤ tl := by
  have := nxN_le (tb := tb) (tl - p) p
  unfold nxt; omega
def hre (tb : Nat → Nat) (tl p : Nat) : Int32 := if p < tl then nI (tb p) else -1
theorem hre_t {tb : Nat → Nat} {tl p : Nat} (h : p < tl) : hre tb tl p = nI (tb p) := if_pos h
theorem hre_f {tb : Nat → Nat} {tl p : Nat} (h : ¬ p < tl) : hre tb tl p = -1 := if_neg h
theorem hre_in {tb : Nat → Nat} {tl p : Nat} (h : ¬ hre tb tl p = -1) : p < tl := by
  rcases Nat.lt_or_ge p tl with q | q
  · exact q
  · exact absurd (hre_f (by omega)) h
theorem hre_m1 {tb : Nat → Nat} {tl p : Nat} (hb : ∀ i, tb i < 256) (h : hre tb tl p = -1) : tl ≤ p := by
  rcases Nat.lt_or_ge p tl with q | q
  · rw [hre_t q] at h; exact absurd h (nI_m1 (by have := hb p; omega))
  · exact q
theorem hre_nI {tb : Nat → Nat} {tl p v : Nat} (hv : v < 2 ^ 31) (h : hre tb tl p = nI v) : p < tl := hre_in (by rw [h]; exact nI_m1 hv)
def opS (b : Int32) : Nat → Nat → Int32
  | 0, _ => -1
  | n + 1, lo => if b = nI (sgn lo) then nI lo else opS b n (lo + 1)
theorem opS_1 {b : Int32} {n lo : Nat} (h : b = nI (sgn lo)) : opS b (n + 1) lo = nI lo := if_pos h
theorem opS_0 {b : Int32} {n lo : Nat} (h : ¬ b = nI (sgn lo)) : opS b (n + 1) lo = opS b n (lo + 1) := if_neg h
theorem opS_nI {b : Int32} : ∀ {n lo : Nat}, ¬ opS b n lo = -1 → ∃ o, lo ≤ o ∧ o < lo + n ∧ opS b n lo = nI o ∧ b = nI (sgn o)
  | 0, _, h => absurd rfl h
  | n + 1, lo, h => by
    by_cases q : b = nI (sgn lo)
    · exact ⟨lo, Nat.le_refl _, by omega, opS_1 q, q⟩
    · rw [opS_0 q] at h ⊢
      obtain ⟨o, h1, h2, h3, h4⟩ := opS_nI h
      exact ⟨o, by omega, by omega, h3, h4⟩
noncomputable def heB (er : Int32) : Bool := deB (¬ er = -1)
theorem he_0 {er : Int32} (h : (heB er).toNat = 0) : er = -1 := by
  apply Classical.byContradiction
  intro q
  rw [show heB er = true from deB_t q] at h
  exact absurd h (by decide)
theorem he_1 {er : Int32} (h : ¬ (heB er).toNat = 0) : ¬ er = -1 := by
  intro q
  rw [show heB er = false from deB_f (fun z => z q)] at h
  exact h rfl
abbrev dgt (b : Int32) : Bool := inB b (nI 48) (nI 57)
def nuV (tb : Nat → Nat) (tl p : Nat) : Nat × Nat := if (dgt (hre tb tl (p + 1))).toNat = 0 then (tb p - 48, p + 1) else ((tb p - 48) * 10 + tb (p + 1) - 48, p + 2)
def nuR (tb : Nat → Nat) (tl p : Nat) : Rd := if (nuV tb tl p).1 < 16 then .inl (kF (nuV tb tl p).1, (nuV tb tl p).2) else .inr p
theorem nu_ok {tb : Nat → Nat} {tl p v q : Nat} (h : nuV tb tl p = (v, q)) (hv : v < 16) : nuR tb tl p = .inl (kF v, q) := by unfold nuR; rw [h]; exact if_pos hv
theorem nu_no {tb : Nat → Nat} {tl p v q : Nat} (h : nuV tb tl p = (v, q)) (hv : 16 ≤ v) : nuR tb tl p = .inr p := by unfold nuR; rw [h]; exact if_neg (by omega)
def foR (tb : Nat → Nat) (tl : Nat) (P : Nat → Rd) (p : Nat) : Rd := match P p with
  | .inr q => .inr q
  | .inl (f, p1) => if opS (hre tb tl (nxt tb tl p1)) 6 4 = -1 then .inl (f, nxt tb tl p1) else match P (nxt tb tl p1 + 1) with
    | .inr q => .inr q
    | .inl (g, p3) => .inl (maF (i2n (opS (hre tb tl (nxt tb tl p1)) 6 4)) f g, p3)
theorem fo_e {tb : Nat → Nat} {tl p e : Nat} {P : Nat → Rd} (h : P p = .inr e) : foR tb tl P p = .inr e := by unfold foR; rw [h]
theorem fo_0 {tb : Nat → Nat} {tl p p1 : Nat} {f : Int64} {P : Nat → Rd} (h : P p = .inl (f, p1)) (ho : opS (hre tb tl (nxt tb tl p1)) 6 4 = -1) : foR tb tl P p = .inl (f, nxt tb tl p1) := by
  unfold foR; rw [h]; exact if_pos ho
theorem fo_2e {tb : Nat → Nat} {tl p p1 e : Nat} {f : Int64} {P : Nat → Rd} (h : P p = .inl (f, p1)) (ho : ¬ opS (hre tb tl (nxt tb tl p1)) 6 4 = -1) (h2 : P (nxt tb tl p1 + 1) = .inr e) : foR tb tl P p = .inr e := by
  unfold foR; rw [h]; refine (if_neg ho).trans ?_; rw [h2]
theorem fo_2 {tb : Nat → Nat} {tl p p1 p3 o : Nat} {f g : Int64} {P : Nat → Rd} (h : P p = .inl (f, p1)) (ho : opS (hre tb tl (nxt tb tl p1)) 6 4 = nI o) (h1 : o < 10) (h2 : P (nxt tb tl p1 + 1) = .inl (g, p3)) : foR tb tl P p = .inl (maF o f g, p3) := by
  unfold foR; rw [h]; refine (if_neg (by rw [ho]; exact nI_m1 (by omega))).trans ?_; rw [h2, ho, i2n_nI (by omega)]
def enR (tb : Nat → Nat) (tl : Nat) (r : Rd) : Rd := match r with
  | .inr q => .inr q
  | .inl (f, p2) => if hre tb tl (nxt tb tl p2) = nI 41 then .inl (f, nxt tb tl p2 + 1) else .inr (nxt tb tl p2)
theorem en_ok {tb : Nat → Nat} {tl p2 : Nat} {f : Int64} {r : Rd} (h : r = .inl (f, p2)) (h2 : hre tb tl (nxt tb tl p2) = nI 41) : enR tb tl r = .inl (f, nxt tb tl p2 + 1) := by subst h; exact if_pos h2
theorem en_no {tb : Nat → Nat} {tl p2 : Nat} {f : Int64} {r : Rd} (h : r = .inl (f, p2)) (h2 : ¬ hre tb tl (nxt tb tl p2) = nI 41) : enR tb tl r = .inr (nxt tb tl p2) := by subst h; exact if_neg h2
theorem en_e {tb : Nat → Nat} {tl e : Nat} {r : Rd} (h : r = .inr e) : enR tb tl r = .inr e := by subst h; rfl
def unR (o : Nat) (r : Rd) : Rd := match r with
  | .inr q => .inr q
  | .inl (f, p2) => .inl (maF o f 0, p2)
def paR (tb : Nat → Nat) (tl : Nat) (P : Nat → Rd) (k p : Nat) : Rd :=
  if hre tb tl (nxt tb tl p) = nI 120 then .inl (-81985529216486896, nxt tb tl p + 1)
  else if ¬ (dgt (hre tb tl (nxt tb tl p))).toNat = 0 then nuR tb tl (nxt tb tl p)
  else if (¬ hre tb tl (nxt tb tl p) = nI 40 ∧ opS (hre tb tl (nxt tb tl p)) 4 0 = -1) ∨ k = 0 then .inr (nxt tb tl p)
  else if hre tb tl (nxt tb tl p) = nI 40 then enR tb tl (foR tb tl P (nxt tb tl p + 1))
  else unR (i2n (opS (hre tb tl (nxt tb tl p)) 4 0)) (P (nxt tb tl p + 1))
def paK (tb : Nat → Nat) (tl : Nat) : Nat → Nat → Rd
  | 0 => paR tb tl (fun _ => .inr 0) 0
  | k + 1 => paR tb tl (paK tb tl k) (k + 1)
def paP (tb : Nat → Nat) (tl : Nat) : Nat → Nat → Rd
  | 0 => fun _ => .inr 0
  | k + 1 => paK tb tl k
theorem paK_eq {tb : Nat → Nat} {tl k p : Nat} : paK tb tl k p = paR tb tl (paP tb tl k) k p := by cases k <;> rfl
theorem pa_x {tb : Nat → Nat} {tl k p : Nat} (h : hre tb tl (nxt tb tl p) = nI 120) : paK tb tl k p = .inl (-81985529216486896, nxt tb tl p + 1) := by rw [paK_eq]; exact if_pos h
theorem pa_n {tb : Nat → Nat} {tl k p : Nat} (h : ¬ hre tb tl (nxt tb tl p) = nI 120) (h2 : ¬ (dgt (hre tb tl (nxt tb tl p))).toNat = 0) : paK tb tl k p = nuR tb tl (nxt tb tl p) := by rw [paK_eq]; unfold paR; rw [if_neg h, if_pos h2]
theorem pa_e {tb : Nat → Nat} {tl k p : Nat} (h : ¬ hre tb tl (nxt tb tl p) = nI 120) (h2 : (dgt (hre tb tl (nxt tb tl p))).toNat = 0) (h3 : (¬ hre tb tl (nxt tb tl p) = nI 40 ∧ opS (hre tb tl (nxt tb tl p)) 4 0 = -1) ∨ k = 0) : paK tb tl k p = .inr (nxt tb tl p) := by rw [paK_eq]; unfold paR; rw [if_neg h, if_neg (fun q => q h2), if_pos h3]
theorem pa_b {tb : Nat → Nat} {tl k p : Nat} (h : ¬ hre tb tl (nxt tb tl p) = nI 120) (h2 : (dgt (hre tb tl (nxt tb tl p))).toNat = 0) (h3 : hre tb tl (nxt tb tl p) = nI 40) (hk : 0 < k) : paK tb tl k p = enR tb tl (foR tb tl (paK tb tl (k - 1)) (nxt tb tl p + 1)) := by
  obtain ⟨j, rfl⟩ : ∃ j, k = j + 1 := ⟨k - 1, by omega⟩
  rw [paK_eq]; unfold paR; rw [if_neg h, if_neg (fun q => q h2), if_neg (fun q => q.elim (fun z => z.1 h3) (fun z => by omega)), if_pos h3]; rfl
theorem pa_u {tb : Nat → Nat} {tl k p o : Nat} (h : ¬ hre tb tl (nxt tb tl p) = nI 120) (h2 : (dgt (hre tb tl (nxt tb tl p))).toNat = 0) (h3 : ¬ hre tb tl (nxt tb tl p) = nI 40) (ho : opS (hre tb tl (nxt tb tl p)) 4 0 = nI o) (h1 : o < 10) (hk : 0 < k) : paK tb tl k p = unR o (paK tb tl (k - 1) (nxt tb tl p + 1)) := by
  obtain ⟨j, rfl⟩ : ∃ j, k = j + 1 := ⟨k - 1, by omega⟩
  rw [paK_eq]; unfold paR; rw [if_neg h, if_neg (fun q => q h2), if_neg (fun q => q.elim (fun z => by rw [ho] at z; exact nI_m1 (by omega) z.2) (fun z => by omega)), if_neg h3, ho, i2n_nI (by omega)]; rfl
/-- what a reader leaves: the class -/
def psC (R : Rd) (tl : Nat) (r : Int64) (pl er : Int32) : Prop := (∃ f q, R = .inl (f, q) ∧ q ≤ tl ∧ r = f ∧ pl = nI q ∧ er = -1) ∨ (∃ e, R = .inr e ∧ e ≤ tl ∧ er = nI e)
theorem psC_ok {R : Rd} {tl : Nat} {r : Int64} {pl er : Int32} (htl : tl ≤ 300) (h : psC R tl r pl er) (he : er = -1) : ∃ f q, R = .inl (f, q) ∧ q ≤ tl ∧ r = f ∧ pl = nI q := by
  rcases h with ⟨f, q, h1, h2, h3, h4, h5⟩ | ⟨e, h1, h2, h3⟩
  · exact ⟨f, q, h1, h2, h3, h4⟩
  · exact absurd (h3.symm.trans he) (nI_m1 (by omega))
theorem psC_er {R : Rd} {tl : Nat} {r : Int64} {pl er : Int32} (h : psC R tl r pl er) (he : ¬ er = -1) : ∃ e, R = .inr e ∧ e ≤ tl ∧ er = nI e := by
  rcases h with ⟨f, q, h1, h2, h3, h4, h5⟩ | h
  · exact absurd h5 he
  · exact h
/-- .. and the reference -/
def psM (R : Rd) (tl : Nat) (r : Int64) (pl wr : Int32) : Prop := (∃ f q, R = .inl (f, q) ∧ q ≤ tl ∧ r = f ∧ pl = nI q ∧ wr = nI 0) ∨ (∃ e, R = .inr e ∧ e ≤ tl ∧ pl = nI e ∧ wr = nI 1)
theorem psM_ok {R : Rd} {tl : Nat} {r : Int64} {pl wr : Int32} (h : psM R tl r pl wr) (he : wr.toInt = 0) : ∃ f q, R = .inl (f, q) ∧ q ≤ tl ∧ r = f ∧ pl = nI q ∧ wr = nI 0 := by
  rcases h with h | ⟨e, h1, h2, h3, h4⟩
  · exact h
  · rw [h4] at he; exact absurd he (by decide)
theorem psM_er {R : Rd} {tl : Nat} {r : Int64} {pl wr : Int32} (h : psM R tl r pl wr) (he : ¬ wr.toInt = 0) : ∃ e, R = .inr e ∧ e ≤ tl ∧ pl = nI e ∧ wr = nI 1 := by
  rcases h with ⟨f, q, h1, h2, h3, h4, h5⟩ | h
  · rw [h5] at he; exact absurd (by decide) he
  · exact h
def rdF (tb : Nat → Nat) (tl : Nat) : Int64 ⊕ Nat := match foR tb tl (paK tb tl 20) 0 with
  | .inr e => .inr e
  | .inl (f, p) => if nxt tb tl p < tl then .inr (nxt tb tl p) else .inl f
theorem rd_e {tb : Nat → Nat} {tl e : Nat} (h : foR tb tl (paK tb tl 20) 0 = .inr e) : rdF tb tl = .inr e := by unfold rdF; rw [h]
theorem rd_1 {tb : Nat → Nat} {tl p : Nat} {f : Int64} (h : foR tb tl (paK tb tl 20) 0 = .inl (f, p)) (h2 : nxt tb tl p < tl) : rdF tb tl = .inr (nxt tb tl p) := by unfold rdF; rw [h]; exact if_pos h2
theorem rd_0 {tb : Nat → Nat} {tl p : Nat} {f : Int64} (h : foR tb tl (paK tb tl 20) 0 = .inl (f, p)) (h2 : ¬ nxt tb tl p < tl) : rdF tb tl = .inl f := by unfold rdF; rw [h]; exact if_neg h2
/-! bytes of a number -/
def byN (x : Int32) (sh : Nat) : Nat := x.toBitVec.toNat / 2 ^ sh % 256
theorem byN_lt (x : Int32) (sh : Nat) : byN x sh < 256 := Nat.mod_lt _ (by decide)
theorem tn_I (x : Int32) : x = nI x.toBitVec.toNat := by
  apply Int32.toBitVec_inj.1
  show x.toBitVec = BitVec.ofNat 32 x.toBitVec.toNat
  simp
theorem by_u (x : Int32) {sh : Nat} (h : sh < 32) : i_ushr x (nI sh) &&& nI 255 = nI (byN x sh) := by
  have h1 := ni_ushr (a := x.toBitVec.toNat) (k := sh) x.toBitVec.isLt h
  rw [← tn_I] at h1
  rw [h1, niand, show (255 : Nat) = 2 ^ 8 - 1 from rfl, Nat.and_two_pow_sub_one_eq_mod]
  rfl

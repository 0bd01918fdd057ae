/-! the first that is alike -/
theorem b2_bit {e : Nat → Nat} (h : ∀ i, e i ≤ 1) : ∀ n i, i < n → b2N e n / 2 ^ i % 2 = e i
  | 0, i, hi => absurd hi (Nat.not_lt_zero i)
  | n + 1, i, hi => by
    show (b2N e n + e n * 2 ^ n) / 2 ^ i % 2 = e i
    have hp : 0 < 2 ^ i := Nat.two_pow_pos i
    rcases Nat.lt_or_ge i n with q | q
    · rw [show (2 : Nat) ^ n = 2 ^ i * (2 * 2 ^ (n - i - 1)) by rw [← Nat.mul_assoc, ← Nat.pow_succ, ← Nat.pow_add]; congr 1; omega, Nat.mul_left_comm, Nat.add_mul_div_left _ _ hp, Nat.mul_left_comm, Nat.add_mul_mod_self_left]
      exact b2_bit h n i q
    · obtain rfl : i = n := by omega
      rw [Nat.add_mul_div_right _ _ hp, Nat.div_eq_of_lt (b2_lt h i), Nat.zero_add]
      exact Nat.mod_eq_of_lt (by have := h i; omega)
def mk15 (s i : Nat) : Nat := if s / 2 ^ i % 2 = 1 then 15 else 0
theorem mk15_lt (s i : Nat) : mk15 s i < 16 := by unfold mk15; split <;> decide
theorem mk_lay (s : Nat) : ∀ n, n ≤ 16 → uN (mkN s n) = layN (mk15 s) n
  | 0, _ => rfl
  | n + 1, h => by
    show uN (mkN s (n + 1)) = layN (mk15 s) n + mk15 s n * 16 ^ n
    by_cases q : s / 2 ^ n % 2 = 1
    · rw [mkN_1 q, uN_or2, show (15 : Int64) = Int32.toInt64 (nI 15) by decide, uN_sh4 (by decide) (by omega), mk_lay s n (by omega), or_lay (layN_lt (mk15_lt s) n), show mk15 s n = 15 from if_pos q]
    · rw [mkN_0 q, mk_lay s n (by omega), show mk15 s n = 0 from if_neg q, Nat.zero_mul, Nat.add_zero]
theorem nib_mk {s i : Nat} (hi : i < 16) : nib (mkN s 16) i = mk15 s i := by
  show ng (uN (mkN s 16)) i = _
  rw [mk_lay s 16 (Nat.le_refl _)]
  exact layN_ng (mk15_lt s) 16 i hi
theorem c_f1 : ∀ a, a < 16 → ∀ b, b < 16 → ((a ^^^ b) &&& 15 = 0 ↔ a = b) := by decide +kernel
theorem fit_iff {e f : Int64} {k : Nat} (hk : k ≤ 65535) : (e ^^^ f) &&& mkN k 16 = 0 ↔ ulN f e 16 &&& k = 0 := by
  have h1 : (e ^^^ f) &&& mkN k 16 = 0 ↔ ∀ i, i < 16 → k / 2 ^ i % 2 = 1 → nib f i = nib e i := by
    constructor
    · intro h i hi hb
      have h2 : nib ((e ^^^ f) &&& mkN k 16) i = 0 := by rw [h]; exact nib_0 i hi
      rw [nib_and, nib_xor, nib_mk hi, show mk15 k i = 15 from if_pos hb] at h2
      exact ((c_f1 _ (nib_lt e i) _ (nib_lt f i)).mp h2).symm
    · intro h
      apply nib_ext
      intro i hi
      rw [nib_0 i hi, nib_and, nib_xor, nib_mk hi]
      by_cases q : k / 2 ^ i % 2 = 1
      · rw [show mk15 k i = 15 from if_pos q]
        exact (c_f1 _ (nib_lt e i) _ (nib_lt f i)).mpr (h i hi q).symm
      · rw [show mk15 k i = 0 from if_neg q]
        exact Nat.and_zero _
  rw [h1]
  have hu : ∀ i, i < 16 → ulN f e 16 / 2 ^ i % 2 = ne01 f e i := fun i hi => by rw [ul_b2]; exact b2_bit (ne_le f e) 16 i hi
  constructor
  · intro h
    apply Nat.eq_of_testBit_eq
    intro i
    rw [Nat.testBit_and, Nat.zero_testBit, Nat.testBit_eq_decide_div_mod_eq, Nat.testBit_eq_decide_div_mod_eq]
    rcases Nat.lt_or_ge i 16 with q | q
    · rw [hu i q]
      by_cases z : k / 2 ^ i % 2 = 1
      · rw [show ne01 f e i = 0 from if_pos (h i q z)]
        rfl
      · rw [decide_eq_false z, Bool.and_false]
    · have hz : k / 2 ^ i = 0 := Nat.div_eq_of_lt (Nat.lt_of_lt_of_le (show k < 2 ^ 16 by omega) (Nat.pow_le_pow_right (by decide) q))
      rw [hz, show decide (0 % 2 = 1) = false by decide, Bool.and_false]
  · intro h i hi hb
    apply Classical.byContradiction
    intro hn
    have h2 : (ulN f e 16 &&& k).testBit i = false := by rw [h, Nat.zero_testBit]
    rw [Nat.testBit_and, Nat.testBit_eq_decide_div_mod_eq, Nat.testBit_eq_decide_div_mod_eq, hu i hi, decide_eq_true hb, show ne01 f e i = 1 from if_neg hn] at h2
    exact absurd h2 (by decide)
/-! the starts and the costs -/
def stI (es : List Ent) (st : Nat → Nat) : Prop := wfE es ∧ coOk es st ∧ st 0 = 0 ∧ st 7 = es.length ∧ es.length ≤ 2000
theorem stI_b {es : List Ent} {st : Nat → Nat} (h : stI es st) : ∀ j, j ≤ 7 → st j < 2 ^ 31 := fun j hj => by
  have h1 := h.2.1.2 j 7 hj (Nat.le_refl _)
  have h2 := h.2.2.2.1
  have h3 := h.2.2.2.2
  omega
theorem stI_c {es : List Ent} {st : Nat → Nat} (h : stI es st) {i k : Nat} (hi : i < es.length) (hk : k ≤ 6) : eC es i = k ↔ st k ≤ i ∧ i < st (k + 1) := by
  obtain ⟨h1, h2, h3⟩ := h.2.1.1 i hi
  have h7 := h.2.2.2.1
  have hu : i < st (eC es i + 1) := by
    rcases Nat.lt_or_ge (eC es i) 6 with q | q
    · exact h3 q
    · rw [show eC es i + 1 = 7 by omega, h7]; exact hi
  constructor
  · rintro rfl; exact ⟨h2, hu⟩
  · intro hz
    rcases Nat.lt_trichotomy (eC es i) k with q | q | q
    · have := h.2.1.2 (eC es i + 1) k (by omega) (by omega); omega
    · exact q
    · have := h.2.1.2 (k + 1) (eC es i) (by omega) (by omega); omega
theorem ct_min {es : List Ent} {st : Nat → Nat} (h : stI es st) {k : Nat} (hk : k ≤ 6) : ∀ n, n ≤ es.length → ctC es k n + min n (st k) = min n (st (k + 1))
  | 0, _ => by show 0 + _ = _; omega
  | n + 1, hn => by
    have h1 := ct_min h hk n (by omega)
    have h2 := h.2.1.2 k (k + 1) (by omega) (by omega)
    have h3 := stI_c h (i := n) (by omega) hk
    show ctC es k n + (if eC es n = k then 1 else 0) + min (n + 1) (st k) = _
    by_cases q : eC es n = k
    · have h4 := h3.mp q
      rw [if_pos q]; omega
    · have h4 : ¬ (st k ≤ n ∧ n < st (k + 1)) := fun z => q (h3.mpr z)
      rw [if_neg q]; omega
theorem ct_eq {es : List Ent} {st : Nat → Nat} (h : stI es st) {k : Nat} (hk : k ≤ 6) : nI (st (k + 1)) - nI (st k) = nI (ctC es k es.length) := by
  have h1 := ct_min h hk es.length (Nat.le_refl _)
  have h2 := h.2.1.2 k (k + 1) (by omega) (by omega)
  have h3 := h.2.1.2 (k + 1) 7 (by omega) (by omega)
  have h4 := h.2.2.2.1
  rw [pk_sub h2]
  congr 1
  omega
theorem sc_su {es : List Ent} {st : Nat → Nat} (h : stI es st) : ∀ c, c ≤ 7 → scT es (st c) = suT st c
  | 0, _ => by rw [h.2.2.1]; rfl
  | c + 1, hc => by
    have h1 := sc_su h c (by omega)
    have h2 := h.2.1.2 c (c + 1) (by omega) (by omega)
    have h3 := h.2.1.2 (c + 1) 7 (by omega) (by omega)
    have h4 := h.2.2.2.1
    have hd : ∀ d, st c + d ≤ st (c + 1) → scT es (st c + d) = scT es (st c) + c * d := by
      intro d
      induction d with
      | zero => intro _; rfl
      | succ d ih =>
        intro hd
        have h5 := ih (by omega)
        have h6 := (stI_c h (i := st c + d) (k := c) (by omega) (by omega)).mpr ⟨by omega, by omega⟩
        show scT es (st c + d) + eC es (st c + d) = _
        rw [h5, h6, Nat.mul_succ]
        omega
    have h7 := hd (st (c + 1) - st c) (by omega)
    rw [show st c + (st (c + 1) - st c) = st (c + 1) by omega, h1] at h7
    exact h7
theorem mean_eq {es : List Ent} {st : Nat → Nat} (h : stI es st) : mnD (suT st 7) es.length = mnD (scT es es.length) es.length := by
  have h1 := sc_su h 7 (Nat.le_refl _)
  rw [h.2.2.2.1] at h1
  rw [h1]
theorem sq_0 {p : Nat → Nat} {al cs : Nat → Bool} {b : Nat} : ∀ c, (sq p al cs b (c + 1)).1 0 = 0
  | 0 => sq_st
  | c + 1 => by rw [sq_st_ne (by omega)]; exact sq_0 c
theorem sq_stI {p : Nat → Nat} {al cs : Nat → Bool} {b : Nat} (hb : b ≤ 6) (hp : ∀ k, k < 10 → 1 ≤ p k) : stI (sq p al cs b 8).2 (sq p al cs b 8).1 :=
  ⟨(sq_wf hb hp 8).1, sq_co hb hp, sq_0 7, by rw [sq_st, sq_out (show ¬ 7 ≤ b by omega)], sq_len 8⟩
theorem stI_0 : stI [] (fun _ => 0) := ⟨fun i hi => absurd hi (Nat.not_lt_zero _), ⟨fun i hi => absurd hi (Nat.not_lt_zero _), fun _ _ _ _ => Nat.le_refl _⟩, rfl, rfl, Nat.zero_le _⟩

/-! sets of inputs as bits, and how many there are -/
theorem tb_i (s i : Nat) : s / 2 ^ i % 2 = 1 ↔ s.testBit i = true := by
  rw [Nat.testBit_eq_decide_div_mod_eq, decide_eq_true_iff]
def bcN (s : Nat) : Nat := sN (fun i => s / 2 ^ i % 2) 16
theorem pc4_m (n : Nat) : pc4 (n % 16) = n % 2 + n / 2 % 2 + n / 4 % 2 + n / 8 % 2 := by unfold pc4; omega
theorem bc_s16 (s : Nat) : bcN s = s16 (fun i => s / 2 ^ i % 2) := by
  have e : bcN s = sN (fun i => s / 2 ^ i % 2) 16 := rfl
  rw [e, ← s16_sN]
theorem pc_s16 (s : Nat) : pc4 (ng s 0) + pc4 (ng s 1) + pc4 (ng s 2) + pc4 (ng s 3) = s16 (fun i => s / 2 ^ i % 2) := by
  unfold s16 ng
  rw [pc4_m, pc4_m, pc4_m, pc4_m]
  simp only [Nat.reducePow, Nat.div_one, Nat.div_div_eq_div_mul, Nat.reduceMul, Nat.add_assoc]
theorem ibc_b {s : Nat} (h : s < 65536) : ibc (nI s) = nI (bcN s) := by
  rw [ibc_n h, bc_s16, pc_s16]
theorem sN_mo {u v : Nat → Nat} : ∀ n, (∀ i, i < n → u i ≤ v i) → sN u n ≤ sN v n
  | 0, _ => Nat.le_refl 0
  | n + 1, h => by
    have h1 := sN_mo n (fun i hi => h i (by omega))
    have h2 := h n (by omega)
    show sN u n + u n ≤ sN v n + v n
    omega
theorem sN_st {u v : Nat → Nat} {k : Nat} : ∀ n, (∀ i, i < n → u i ≤ v i) → k < n → u k < v k → sN u n < sN v n
  | 0, _, hk, _ => absurd hk (Nat.not_lt_zero k)
  | n + 1, h, hk, hs => by
    have h2 := h n (by omega)
    show sN u n + u n < sN v n + v n
    rcases Nat.lt_or_ge k n with q | q
    · have h1 := sN_st n (fun i hi => h i (by omega)) q hs
      omega
    · obtain rfl : k = n := by omega
      have h1 := sN_mo k (fun i hi => h i (by omega))
      omega
theorem sN_1s : ∀ n, sN (fun _ => 1) n = n
  | 0 => rfl
  | n + 1 => by show sN (fun _ => 1) n + 1 = n + 1; rw [sN_1s n]
theorem sN_ad (u v : Nat → Nat) : ∀ n, sN (fun i => u i + v i) n = sN u n + sN v n
  | 0 => rfl
  | n + 1 => by
    show sN (fun i => u i + v i) n + (u n + v n) = sN u n + u n + (sN v n + v n)
    rw [sN_ad u v n]; omega
def suB (s t : Nat) : Prop := ∀ i, i < 16 → s / 2 ^ i % 2 = 1 → t / 2 ^ i % 2 = 1
theorem bt_2 (s i : Nat) : s / 2 ^ i % 2 < 2 := Nat.mod_lt _ (by decide)
theorem bc_16 (s : Nat) : bcN s ≤ 16 := by
  have h := sN_mo (u := fun i => s / 2 ^ i % 2) (v := fun _ => 1) 16 (fun i _ => by have := bt_2 s i; show s / 2 ^ i % 2 ≤ 1; omega)
  rw [sN_1s] at h
  exact h
theorem su_le {s t : Nat} (h : suB s t) : ∀ i, i < 16 → s / 2 ^ i % 2 ≤ t / 2 ^ i % 2 := fun i hi => by
  have h1 := h i hi
  have h2 := bt_2 s i
  generalize s / 2 ^ i % 2 = a at h1 h2
  generalize t / 2 ^ i % 2 = b at h1
  rcases (show a = 0 ∨ a = 1 by omega) with rfl | rfl
  · exact Nat.zero_le _
  · rw [h1 rfl]; exact Nat.le_refl 1
theorem bc_le {s t : Nat} (h : suB s t) : bcN s ≤ bcN t := sN_mo 16 (su_le h)
theorem bit_ext {s t : Nat} (hs : s < 65536) (ht : t < 65536) (h : ∀ i, i < 16 → (s / 2 ^ i % 2 = 1 ↔ t / 2 ^ i % 2 = 1)) : s = t := by
  apply Nat.eq_of_testBit_eq
  intro i
  rcases Nat.lt_or_ge i 16 with q | q
  · have h1 := h i q
    rw [tb_i, tb_i] at h1
    exact Bool.eq_iff_iff.mpr h1
  · have h2 : 2 ^ 16 ≤ 2 ^ i := Nat.pow_le_pow_right (by decide) q
    have h3 : (2 : Nat) ^ 16 = 65536 := by decide
    rw [Nat.testBit_lt_two_pow (show s < 2 ^ i by omega), Nat.testBit_lt_two_pow (show t < 2 ^ i by omega)]
theorem bc_eq {s t : Nat} (hs : s < 65536) (ht : t < 65536) (h : suB s t) : s = t ∨ bcN s < bcN t := by
  by_cases q : ∀ i, i < 16 → t / 2 ^ i % 2 = 1 → s / 2 ^ i % 2 = 1
  · exact Or.inl (bit_ext hs ht (fun i hi => ⟨h i hi, q i hi⟩))
  · refine Or.inr ?_
    have : ∃ k, k < 16 ∧ t / 2 ^ k % 2 = 1 ∧ ¬ s / 2 ^ k % 2 = 1 := by
      apply Classical.byContradiction
      intro z
      exact q (fun i hi h1 => Classical.byContradiction fun h2 => z ⟨i, hi, h1, h2⟩)
    obtain ⟨k, hk, h1, h2⟩ := this
    refine sN_st 16 (su_le h) hk ?_
    have h3 := bt_2 s k
    show s / 2 ^ k % 2 < t / 2 ^ k % 2
    omega
theorem bc_all {s : Nat} (hs : s < 65536) (h : bcN s = 16) : s = 65535 := by
  rcases bc_eq hs (t := 65535) (by decide) (fun i hi _ => all_1 i hi) with q | q
  · exact q
  · have := bc_16 65535
    omega
theorem bc_65535 : bcN 65535 = 16 := by decide
/-! the image of a set -/
theorem im_bit {f : Int64} {z j : Nat} : ∀ n, imN f z n / 2 ^ j % 2 = 1 ↔ ∃ i, i < n ∧ z / 2 ^ i % 2 = 1 ∧ nib f i = j
  | 0 => by
    constructor
    · intro h
      have h0 : imN f z 0 = 0 := rfl
      rw [h0, Nat.zero_div] at h
      exact absurd h (by decide)
    · rintro ⟨i, hi, -⟩
      exact absurd hi (Nat.not_lt_zero i)
  | n + 1 => by
    have ih := im_bit (f := f) (z := z) (j := j) n
    by_cases q : z / 2 ^ n % 2 = 1
    · rw [imN_1 q, tb_i, Nat.testBit_or, Bool.or_eq_true, ← tb_i, ih, Nat.testBit_two_pow, decide_eq_true_iff]
      constructor
      · rintro (⟨i, h1, h2, h3⟩ | h)
        · exact ⟨i, by omega, h2, h3⟩
        · exact ⟨n, by omega, q, h⟩
      · rintro ⟨i, h1, h2, h3⟩
        rcases Nat.lt_or_ge i n with w | w
        · exact Or.inl ⟨i, w, h2, h3⟩
        · obtain rfl : i = n := by omega
          exact Or.inr h3
    · rw [imN_0 q, ih]
      constructor
      · rintro ⟨i, h1, h2, h3⟩
        exact ⟨i, by omega, h2, h3⟩
      · rintro ⟨i, h1, h2, h3⟩
        rcases Nat.lt_or_ge i n with w | w
        · exact ⟨i, w, h2, h3⟩
        · obtain rfl : i = n := by omega
          exact absurd h2 q
theorem im_mo {f : Int64} {a b : Nat} (h : suB a b) : suB (imF f a) (imF f b) := by
  intro j _ h1
  obtain ⟨i, h2, h3, h4⟩ := (im_bit 16).mp h1
  exact (im_bit 16).mpr ⟨i, h2, h i h2 h3, h4⟩
theorem it_dn {f : Int64} : ∀ n, suB (itF f (n + 1)) (itF f n)
  | 0 => fun i hi _ => all_1 i hi
  | n + 1 => im_mo (it_dn n)
theorem it_de {f : Int64} {a : Nat} : ∀ d, suB (itF f (a + d)) (itF f a)
  | 0 => fun _ _ h => h
  | d + 1 => fun i hi h => it_de d i hi (it_dn (a + d) i hi h)
theorem it_sta {f : Int64} {j : Nat} (h : itF f (j + 1) = itF f j) : ∀ d, itF f (j + d) = itF f j
  | 0 => rfl
  | d + 1 => by
    show imF f (itF f (j + d)) = itF f j
    rw [it_sta h d]
    exact h
theorem it_up {f : Int64} {n : Nat} (hn : n ≤ 16) (hs : ∀ j, j < n → itF f j ≠ itF f 16) : ∀ j, j ≤ n → bcN (itF f j) + j ≤ 16
  | 0, _ => by have h := bc_16 (itF f 0); omega
  | j + 1, hj => by
    have ih := it_up hn hs j (by omega)
    rcases bc_eq (itF_lt f (j + 1)) (itF_lt f j) (it_dn j) with q | q
    · have h1 := it_sta q (16 - j)
      rw [show j + (16 - j) = 16 by omega] at h1
      exact absurd h1.symm (hs j (by omega))
    · omega
theorem stp_le {f : Int64} {n : Nat} (h : isStp f n) : n + bcN (itF f 16) ≤ 16 := by
  have h1 := it_up h.1 h.2.2 n (Nat.le_refl n)
  rw [h.2.1] at h1
  omega
theorem fix_in {f : Int64} {i : Nat} (hi : i < 16) (h : nib f i = i) : ∀ n, itF f n / 2 ^ i % 2 = 1
  | 0 => all_1 i hi
  | n + 1 => (im_bit 16).mpr ⟨i, hi, fix_in hi h n, h⟩
theorem fix_le (f : Int64) : 16 ≤ sN (ne01 f fX) 16 + bcN (itF f 16) := by
  unfold bcN
  rw [← sN_ad]
  have h := sN_mo (u := fun _ => 1) (v := fun i => ne01 f fX i + itF f 16 / 2 ^ i % 2) 16 (fun i hi => by
    show 1 ≤ ne01 f fX i + itF f 16 / 2 ^ i % 2
    by_cases q : nib f i = nib fX i
    · rw [fix_in hi (by rw [q, nib_X i hi]) 16]; omega
    · unfold ne01; rw [if_neg q]; omega)
  rw [sN_1s] at h
  exact h
theorem full_a {f : Int64} (h : bcN (imF f 65535) = 16) : bcN (itF f 16) = 16 := by
  have h1 := bc_all (imN_lt f 65535 16) h
  have h2 := it_sta (f := f) (j := 0) h1 16
  rw [show 0 + 16 = 16 by omega] at h2
  rw [h2]
  exact bc_65535
theorem full_b {f : Int64} : bcN (itF f 16) ≤ bcN (imF f 65535) := bc_le (it_de (f := f) (a := 1) 15)
/-! a function whose values are all different -/
theorem sur {f : Int64} (h : bcN (imF f 65535) = 16) : ∀ j, j < 16 → ∃ i, i < 16 ∧ nib f i = j := by
  intro j hj
  have h1 := bc_all (imN_lt f 65535 16) h
  have h2 : imF f 65535 / 2 ^ j % 2 = 1 := by rw [show imF f 65535 = 65535 from h1]; exact all_1 j hj
  obtain ⟨i, h3, h4, h5⟩ := (im_bit 16).mp h2
  exact ⟨i, h3, h5⟩
theorem fil_15 : ∀ b, b < 16 → ((List.range 16).filter (fun x => x != b)).length = 15 := by decide
theorem inj {f : Int64} (h : ∀ j, j < 16 → ∃ i, i < 16 ∧ nib f i = j) {a b : Nat} (ha : a < 16) (hb : b < 16) (he : nib f a = nib f b) : a = b := by
  apply Classical.byContradiction
  intro hn
  have h1 : ∀ j, ∃ i, j < 16 → (i < 16 ∧ i ≠ b ∧ nib f i = j) := by
    intro j
    by_cases hj : j < 16
    · obtain ⟨i, h2, h3⟩ := h j hj
      by_cases q : i = b
      · exact ⟨a, fun _ => ⟨ha, hn, by rw [he, ← q]; exact h3⟩⟩
      · exact ⟨i, fun _ => ⟨h2, q, h3⟩⟩
    · exact ⟨0, fun z => absurd z hj⟩
  obtain ⟨g, hg⟩ := Classical.axiomOfChoice (r := fun j i => j < 16 → (i < 16 ∧ i ≠ b ∧ nib f i = j)) h1
  have h2 := nd_le 16 g ((List.range 16).filter (fun x => x != b)) (fun i j hi hj e => by
    rw [← (hg i hi).2.2, ← (hg j hj).2.2, e]) (fun i hi => by
    rw [List.mem_filter]
    exact ⟨List.mem_range.mpr (hg i hi).1, by simpa using (hg i hi).2.1⟩)
  rw [fil_15 b hb] at h2
  exact absurd h2 (by decide)
theorem nib_sh {v i j : Nat} (hv : v < 16) (hi : i < 16) : nib (j_shl (Int32.toInt64 (nI v)) (nI (4 * i))) j = if j = i then v else 0 := by
  unfold nib
  rw [uN_sh4 hv hi]
  rcases Nat.lt_trichotomy j i with q | q | q
  · rw [if_neg (by omega)]
    obtain ⟨d, rfl⟩ : ∃ d, i = j + (d + 1) := ⟨i - j - 1, by omega⟩
    rw [show v * 16 ^ (j + (d + 1)) = (v * 16 ^ d * 16) * 16 ^ j by rw [Nat.pow_add, Nat.pow_succ]; ac_rfl, Nat.mul_div_cancel _ (ng_p j)]
    omega
  · subst q
    rw [if_pos rfl, Nat.mul_div_cancel _ (ng_p j)]
    omega
  · rw [if_neg (by omega)]
    have h1 : 16 ^ (i + 1) ≤ 16 ^ j := Nat.pow_le_pow_right (by decide) q
    have h2 : v * 16 ^ i ≤ 15 * 16 ^ i := Nat.mul_le_mul_right _ (by omega)
    have h3 := ng_p i
    rw [Nat.pow_succ] at h1
    rw [Nat.div_eq_of_lt (by omega)]
theorem iv_nib {f : Int64} (h : ∀ a b, a < 16 → b < 16 → nib f a = nib f b → a = b) : ∀ n, n ≤ 16 → (∀ i, i < n → nib (ivN f n) (nib f i) = i) ∧ ∀ j, j < 16 → (∀ i, i < n → nib f i ≠ j) → nib (ivN f n) j = 0
  | 0, _ => ⟨fun i hi => absurd hi (Nat.not_lt_zero i), fun j hj _ => nib_0 j hj⟩
  | n + 1, hn => by
    obtain ⟨h1, h2⟩ := iv_nib h n (by omega)
    have e : ∀ j, nib (ivN f (n + 1)) j = nib (ivN f n) j ||| (if j = nib f n then n else 0) := fun j => by
      show nib (ivN f n ||| j_shl (Int32.toInt64 (nI n)) (nI (4 * nib f n))) j = _
      rw [nib_or, nib_sh (by omega) (nib_lt f n)]
    refine ⟨fun i hi => ?_, fun j hj hx => ?_⟩
    · rw [e]
      rcases Nat.lt_or_ge i n with q | q
      · rw [h1 i q, if_neg (fun z => by have := h i n (by omega) (by omega) z; omega), Nat.or_zero]
      · obtain rfl : i = n := by omega
        rw [h2 _ (nib_lt f i) (fun k hk z => by have := h k i (by omega) (by omega) z; omega), if_pos rfl, Nat.zero_or]
    · rw [e, h2 j hj (fun i hi => hx i (by omega)), if_neg (fun z => hx n (by omega) z.symm), Nat.zero_or]
theorem comp_iv {f : Int64} (h : bcN (imF f 65535) = 16) : afN f (ivN f 16) 16 = fX := by
  have h1 := sur h
  have h2 := (iv_nib (fun a b ha hb he => inj h1 ha hb he) 16 (Nat.le_refl 16)).1
  apply nib_ext
  intro j hj
  rw [nib_af hj, nib_X j hj]
  obtain ⟨i, h3, h4⟩ := h1 j hj
  rw [← h4, h2 i h3]
/-! the measures as numbers -/
theorem ms_n0 {f : Int64} {r : Int32} (h : msR f 0 r) : r = nI (16 - sN (ne01 f fX) 16) := by
  have h1 : r = nI 16 - lbc (dfF f fX) := h
  have h2 := sN_mo (u := ne01 f fX) (v := fun _ => 1) 16 (fun i _ => ne_le f fX i)
  rw [sN_1s] at h2
  rw [h1, lbc_df, s16_sN, pk_sub h2]
theorem ms_n1 {f : Int64} {r : Int32} (h : msR f 1 r) : r = nI (bcN (imF f 65535)) := (show r = ibc (nI (imF f 65535)) from h).trans (ibc_b (imN_lt f 65535 16))
theorem ms_n3 {f : Int64} {r : Int32} (h : msR f 3 r) : r = nI (bcN (itF f 16)) := (show r = ibc (nI (itF f 16)) from h).trans (ibc_b (itF_lt f 16))
theorem ms_n4 {f : Int64} {r : Int32} (h : msR f 4 r) : ∃ n, r = nI n ∧ n + bcN (itF f 16) ≤ 16 := by
  obtain ⟨n, h1, h2⟩ := (show ∃ n, r = nI n ∧ isStp f n from h)
  exact ⟨n, h1, stp_le h2⟩
theorem ms_03 (f : Int64) : 16 - sN (ne01 f fX) 16 ≤ bcN (itF f 16) := by have := fix_le f; omega
theorem iv_16 {f : Int64} (h : bcN (imF f 65535) = 16) : 16 ≤ (ibc (nI (imF f 65535))).toInt := by
  have e : ibc (nI (imF f 65535)) = nI (bcN (imF f 65535)) := ibc_b (imN_lt f 65535 16)
  rw [e, h, nI_toInt (by decide)]
  decide

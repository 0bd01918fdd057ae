/-! where two functions differ -/
def ne01 (f g : Int64) (i : Nat) : Nat := if nib f i = nib g i then 0 else 1
theorem ne_le (f g : Int64) (i : Nat) : ne01 f g i ≤ 1 := by unfold ne01; split <;> decide
theorem ne_sym (f g : Int64) : ne01 f g = ne01 g f := by
  funext i
  unfold ne01
  by_cases q : nib f i = nib g i
  · rw [if_pos q, if_pos q.symm]
  · rw [if_neg q, if_neg (fun z => q z.symm)]
theorem c_d1 : ∀ v, v < 16 → ∀ z, z < 4 → ∀ y, y < 2 → (((v ||| (v / 4 + 4 * z)) ||| ((v ||| (v / 4 + 4 * z)) / 2 + 8 * y)) &&& 1) = if v = 0 then 0 else 1 := by decide +kernel
theorem c_d2 : ∀ a, a < 16 → ∀ b, b < 16 → (a ^^^ b = 0 ↔ a = b) := by decide +kernel
theorem nib_df {f g : Int64} {i : Nat} (hi : i < 16) : nib (dfF f g) i = ne01 f g i := by
  show nib (((f ^^^ g) ||| j_ushr (f ^^^ g) (nI 2) ||| j_ushr ((f ^^^ g) ||| j_ushr (f ^^^ g) (nI 2)) (nI 1)) &&& 1229782938247303441) i = _
  obtain ⟨z, hz, e2⟩ := sh2 (uN (f ^^^ g)) i
  have e2 : nib (j_ushr (f ^^^ g) (nI 2)) i = nib (f ^^^ g) i / 4 + 4 * z := by
    show ng (uN (j_ushr (f ^^^ g) (nI 2))) i = _
    rw [uN_ushr _ (by decide)]; exact e2
  obtain ⟨y, hy, e3⟩ := sh1 (uN ((f ^^^ g) ||| j_ushr (f ^^^ g) (nI 2))) i
  have e3 : nib (j_ushr ((f ^^^ g) ||| j_ushr (f ^^^ g) (nI 2)) (nI 1)) i = nib ((f ^^^ g) ||| j_ushr (f ^^^ g) (nI 2)) i / 2 + 8 * y := by
    show ng (uN (j_ushr ((f ^^^ g) ||| j_ushr (f ^^^ g) (nI 2)) (nI 1))) i = _
    rw [uN_ushr _ (by decide)]; exact e3
  rw [nib_and, nib_or, e3, nib_or, e2, nib_1 i hi, c_d1 _ (nib_lt _ i) z hz y hy, nib_xor]
  unfold ne01
  by_cases q : nib f i = nib g i
  · rw [if_pos q, if_pos ((c_d2 _ (nib_lt f i) _ (nib_lt g i)).mpr q)]
  · rw [if_neg q, if_neg (fun z => q ((c_d2 _ (nib_lt f i) _ (nib_lt g i)).mp z))]
theorem pc4_1 {v : Nat} (h : v ≤ 1) : pc4 v = v := by unfold pc4; omega
theorem s16_cg {u v : Nat → Nat} (h : ∀ i, i < 16 → u i = v i) : s16 u = s16 v := by
  unfold s16
  rw [h 0 (by decide), h 1 (by decide), h 2 (by decide), h 3 (by decide), h 4 (by decide), h 5 (by decide), h 6 (by decide), h 7 (by decide), h 8 (by decide), h 9 (by decide), h 10 (by decide), h 11 (by decide), h 12 (by decide), h 13 (by decide), h 14 (by decide), h 15 (by decide)]
theorem lbc_df (f g : Int64) : lbc (dfF f g) = nI (s16 (ne01 f g)) := by
  rw [lbc_n]
  congr 1
  exact s16_cg (fun i hi => by rw [nib_df hi]; exact pc4_1 (ne_le f g i))
def b2N (e : Nat → Nat) : Nat → Nat | 0 => 0 | i + 1 => b2N e i + e i * 2 ^ i
theorem b2_lt {e : Nat → Nat} (h : ∀ i, e i ≤ 1) : ∀ n, b2N e n < 2 ^ n
  | 0 => by show 0 < 1; decide
  | n + 1 => by
    have h1 := b2_lt h n
    have h2 : e n * 2 ^ n ≤ 1 * 2 ^ n := Nat.mul_le_mul_right _ (h n)
    show b2N e n + e n * 2 ^ n < 2 ^ (n + 1)
    rw [Nat.pow_succ]
    omega
theorem ul_b2 (f g : Int64) : ∀ n, ulN f g n = b2N (ne01 f g) n
  | 0 => rfl
  | n + 1 => by
    have h1 := b2_lt (ne_le f g) n
    show ulN f g n ||| (if nib f n = nib g n then 0 else 2 ^ n) = b2N (ne01 f g) n + ne01 f g n * 2 ^ n
    rw [ul_b2 f g n]
    generalize b2N (ne01 f g) n = B at h1 ⊢
    unfold ne01
    split
    · rw [Nat.or_zero, Nat.zero_mul, Nat.add_zero]
    · rw [Nat.one_mul]
      have h2 := Nat.two_pow_add_eq_or_of_lt h1 1
      rw [Nat.mul_one] at h2
      rw [Nat.or_comm, ← h2, Nat.add_comm]
theorem pc4_b {a b c d : Nat} (ha : a ≤ 1) (hb : b ≤ 1) (hc : c ≤ 1) (hd : d ≤ 1) : pc4 (a + 2 * b + 4 * c + 8 * d) = a + b + c + d := by unfold pc4; omega
theorem ibc_ul (f g : Int64) : ibc (nI (ulN f g 16)) = nI (s16 (ne01 f g)) := by
  have hl : ulN f g 16 < 65536 := ulN_lt f g 16 (Nat.le_refl _)
  rw [ibc_n hl]
  congr 1
  have hb := ul_b2 f g 16
  have e : b2N (ne01 f g) 16 = 0 + ne01 f g 0 * 2 ^ 0 + ne01 f g 1 * 2 ^ 1 + ne01 f g 2 * 2 ^ 2 + ne01 f g 3 * 2 ^ 3 + ne01 f g 4 * 2 ^ 4 + ne01 f g 5 * 2 ^ 5 + ne01 f g 6 * 2 ^ 6 + ne01 f g 7 * 2 ^ 7 + ne01 f g 8 * 2 ^ 8 + ne01 f g 9 * 2 ^ 9 + ne01 f g 10 * 2 ^ 10 + ne01 f g 11 * 2 ^ 11 + ne01 f g 12 * 2 ^ 12 + ne01 f g 13 * 2 ^ 13 + ne01 f g 14 * 2 ^ 14 + ne01 f g 15 * 2 ^ 15 := rfl
  rw [e] at hb
  have k := ne_le f g
  have k0 := k 0
  have k1 := k 1
  have k2 := k 2
  have k3 := k 3
  have k4 := k 4
  have k5 := k 5
  have k6 := k 6
  have k7 := k 7
  have k8 := k 8
  have k9 := k 9
  have ka := k 10
  have kb := k 11
  have kc := k 12
  have kd := k 13
  have ke := k 14
  have kf := k 15
  unfold s16
  generalize ne01 f g 0 = e0 at *
  generalize ne01 f g 1 = e1 at *
  generalize ne01 f g 2 = e2 at *
  generalize ne01 f g 3 = e3 at *
  generalize ne01 f g 4 = e4 at *
  generalize ne01 f g 5 = e5 at *
  generalize ne01 f g 6 = e6 at *
  generalize ne01 f g 7 = e7 at *
  generalize ne01 f g 8 = e8 at *
  generalize ne01 f g 9 = e9 at *
  generalize ne01 f g 10 = ea at *
  generalize ne01 f g 11 = eb at *
  generalize ne01 f g 12 = ec at *
  generalize ne01 f g 13 = ed at *
  generalize ne01 f g 14 = ee at *
  generalize ne01 f g 15 = ef at *
  generalize ulN f g 16 = u at hb hl ⊢
  simp only [Nat.reducePow] at hb
  have n0 : ng u 0 = e0 + 2 * e1 + 4 * e2 + 8 * e3 := by unfold ng; simp only [Nat.reducePow]; omega
  have n1 : ng u 1 = e4 + 2 * e5 + 4 * e6 + 8 * e7 := by unfold ng; simp only [Nat.reducePow]; omega
  have n2 : ng u 2 = e8 + 2 * e9 + 4 * ea + 8 * eb := by unfold ng; simp only [Nat.reducePow]; omega
  have n3 : ng u 3 = ec + 2 * ed + 4 * ee + 8 * ef := by unfold ng; simp only [Nat.reducePow]; omega
  rw [n0, n1, n2, n3, pc4_b k0 k1 k2 k3, pc4_b k4 k5 k6 k7, pc4_b k8 k9 ka kb, pc4_b kc kd ke kf]
  omega
theorem near_d (f g : Int64) : lbc (dfF g f) = ibc (nI (ulN f g 16)) := by rw [lbc_df, ibc_ul, ne_sym]
def sN (v : Nat → Nat) : Nat → Nat | 0 => 0 | i + 1 => sN v i + v i
theorem s16_sN (v : Nat → Nat) : s16 v = sN v 16 := by
  have e : sN v 16 = 0 + v 0 + v 1 + v 2 + v 3 + v 4 + v 5 + v 6 + v 7 + v 8 + v 9 + v 10 + v 11 + v 12 + v 13 + v 14 + v 15 := rfl
  rw [e, Nat.zero_add]
  rfl
theorem nib_X : ∀ i, i < 16 → nib fX i = i := by decide +kernel
theorem mm_0 (f : Int64) : ∀ n, n ≤ 16 → ∃ S, sN (ne01 f fX) n + S = n ∧ mmN f 0 n = nI S
  | 0, _ => ⟨0, rfl, rfl⟩
  | n + 1, h => by
    obtain ⟨S, h1, h2⟩ := mm_0 f n (by omega)
    have hx := nib_X n (by omega)
    by_cases q : nib f n = n
    · refine ⟨S + 1, ?_, ?_⟩
      · show sN (ne01 f fX) n + ne01 f fX n + (S + 1) = n + 1
        unfold ne01 at h1 ⊢
        rw [hx, if_pos q]
        omega
      · rw [← mm_a rfl q, h2, nI_add]
    · refine ⟨S, ?_, ?_⟩
      · show sN (ne01 f fX) n + ne01 f fX n + S = n + 1
        have e : ne01 f fX n = 1 := by unfold ne01; rw [hx, if_neg q]
        rw [e]
        omega
      · rw [← mm_b rfl q, h2, nI_add, Nat.add_zero]
theorem ibc_4 : ∀ v, v < 16 → ibc (nI v) = nI (pc4 v) := by decide +kernel
theorem mm_2 (f : Int64) : ∀ n, n ≤ 16 → mmN f 2 n = nI (sN (fun i => pc4 (nib (f ^^^ fX) i)) n)
  | 0, _ => rfl
  | n + 1, h => by
    have hx := nib_X n (by omega)
    have h16 := (c_bw _ (nib_lt f n) n (by omega)).2.2.1
    rw [← mm_c (by decide), mm_2 f n (by omega), ibc_4 _ h16, nI_add]
    show nI (_ + pc4 (nib f n ^^^ n)) = nI (_ + pc4 (nib (f ^^^ fX) n))
    rw [nib_xor, hx]
theorem stp_eq {f : Int64} {n m : Nat} (h : isStp f n) (h' : isStp f m) : n = m := by
  obtain ⟨-, h2, h3⟩ := h
  obtain ⟨-, g2, g3⟩ := h'
  rcases Nat.lt_trichotomy n m with q | q | q
  · exact absurd h2 (g3 n q)
  · exact q
  · exact absurd g2 (h3 m q)
theorem ms_eq {f : Int64} {k : Nat} {r r' : Int32} (hk : k ≤ 4) (h : msR f k r) (h' : msM f k r') : r = r' := by
  unfold msM at h'
  rcases (show k = 0 ∨ k = 1 ∨ k = 2 ∨ k = 3 ∨ k = 4 by omega) with rfl | rfl | rfl | rfl | rfl
  · have h1 : r = nI 16 - lbc (dfF f fX) := h
    have h2 : r' = mmN f 0 16 := h'
    obtain ⟨S, e1, e2⟩ := mm_0 f 16 (Nat.le_refl _)
    rw [h1, h2, e2, lbc_df, s16_sN, pk_sub (by omega)]
    congr 1
    omega
  · exact Eq.trans (show r = ibc (nI (imF f 65535)) from h) (show r' = ibc (nI (imF f 65535)) from h').symm
  · have h1 : r = lbc (f ^^^ fX) := h
    have h2 : r' = mmN f 2 16 := h'
    rw [h1, h2, mm_2 f 16 (Nat.le_refl _), lbc_n, s16_sN]
  · exact Eq.trans (show r = ibc (nI (itF f 16)) from h) (show r' = ibc (nI (itF f 16)) from h').symm
  · obtain ⟨n, e1, e2⟩ := (show ∃ n, r = nI n ∧ isStp f n from h)
    obtain ⟨m, g1, g2⟩ := (show ∃ n, r' = nI n ∧ isStp f n from h')
    rw [e1, g1, stp_eq e2 g2]
theorem deB_iff {p q : Prop} (h : p ↔ q) : deB p = deB q := by
  by_cases z : p
  · rw [deB_t z, deB_t (h.mp z)]
  · rw [deB_f z, deB_f (fun y => z (h.mpr y))]
theorem deB_is {p : Prop} : deB p = true ↔ p := by
  by_cases z : p
  · rw [deB_t z]; exact ⟨fun _ => z, fun _ => rfl⟩
  · rw [deB_f z]; exact ⟨fun y => absurd y Bool.false_ne_true, fun y => absurd y z⟩
theorem all_256 {P : Nat → Nat → Prop} : (∀ j, j < 256 → P (j / 16) (j % 16)) ↔ ∀ a, a < 16 → ∀ b, b < 16 → P a b := by
  constructor
  · intro h a ha b hb
    have h1 := h (a * 16 + b) (by omega)
    rwa [show (a * 16 + b) / 16 = a by omega, show (a * 16 + b) % 16 = b by omega] at h1
  · intro h j hj
    exact h _ (by omega) _ (by omega)
theorem af_lay (f g : Int64) : ∀ n, n ≤ 16 → uN (afN f g n) = layN (fun i => nib f (nib g i)) n
  | 0, _ => rfl
  | n + 1, h => by
    have hv : ∀ i, nib f (nib g i) < 16 := fun i => nib_lt _ _
    show uN (afN f g n ||| j_shl (Int32.toInt64 (nI (nib f (nib g n)))) (nI (4 * n))) = _
    rw [uN_or2, uN_sh4 (hv n) (by omega), af_lay f g n (by omega), or_lay (layN_lt hv n)]
    rfl
theorem nib_af {f g : Int64} {i : Nat} (hi : i < 16) : nib (afN f g 16) i = nib f (nib g i) := by
  show ng (uN (afN f g 16)) i = _
  rw [af_lay f g 16 (Nat.le_refl _)]
  exact layN_ng (fun i => nib_lt _ _) 16 i hi
theorem ris_mono {f : Int64} (h : ∀ x, x < 15 → nib f x ≤ nib f (x + 1)) : ∀ d b, b + d < 16 → nib f b ≤ nib f (b + d)
  | 0, _, _ => Nat.le_refl _
  | d + 1, b, hb => Nat.le_trans (ris_mono h d b (by omega)) (h (b + d) (by omega))
theorem c_l1 : ∀ a, a < 16 → ∀ b, b < 16 → ∀ k, k < 4 → ((a ^^^ b) % (2 * 2 ^ k) = 0 → a &&& (2 * 2 ^ k - 1) = b &&& (2 * 2 ^ k - 1)) ∧ (a ^^^ (a &&& (2 * 2 ^ k - 1))) % (2 * 2 ^ k) = 0 ∧ a &&& (2 * 2 ^ k - 1) < 16 := by decide +kernel
theorem c_l2 : ∀ u, u < 16 → ∀ v, v < 16 → ∀ k, k < 4 → (¬ (u ^^^ v) / 2 ^ k % 2 = 1 ↔ u / 2 ^ k % 2 = v / 2 ^ k % 2) := by decide +kernel
theorem is_eq {f : Int64} {k : Nat} (hk : k ≤ 3) : isR f k = isM f k := by
  unfold isM
  rcases (show k = 0 ∨ k = 1 ∨ k = 2 ∨ k = 3 by omega) with rfl | rfl | rfl | rfl
  · refine deB_iff (Iff.trans ?_ (all_256 (P := fun a b => ifB f 0 a b = true)).symm)
    exact ⟨fun h a ha b hb => deB_is.mpr (h a ha b hb), fun h a ha b hb => deB_is.mp (h a ha b hb)⟩
  · refine deB_iff (Iff.trans ?_ (all_256 (P := fun a b => ifB f 1 a b = true)).symm)
    refine ⟨fun h a ha b hb => deB_is.mpr ?_, fun h x hx => ?_⟩
    · rcases Nat.lt_or_ge b a with q | q
      · right
        have h1 := ris_mono h (a - b) b (by omega)
        rwa [show b + (a - b) = a by omega] at h1
      · exact Or.inl q
    · rcases deB_is.mp (h (x + 1) (by omega) x (by omega)) with q | q
      · omega
      · exact q
  · refine deB_iff (Iff.trans ?_ (all_256 (P := fun a b => ifB f 2 a b = true)).symm)
    refine ⟨fun h a ha b hb => deB_is.mpr ?_, fun h => nib_ext (fun i hi => ?_)⟩
    · rw [← nib_af ha, h]
    · rw [nib_af hi]
      exact deB_is.mp (h i hi 0 (by decide))
  · refine deB_iff (Iff.trans ?_ (all_256 (P := fun a b => ifB f 3 a b = true)).symm)
    refine ⟨fun h a ha b hb => deB_is.mpr (fun k hk => ?_), fun h k hk x hx => ?_⟩
    · by_cases q : (a ^^^ b) % (2 * 2 ^ k) = 0
      · right
        have e := (c_l1 a ha b hb k hk).1 q
        have h1 := (c_l2 _ (nib_lt f a) _ (nib_lt f (a &&& (2 * 2 ^ k - 1))) k hk).mp (h k hk a ha)
        have h2 := (c_l2 _ (nib_lt f b) _ (nib_lt f (b &&& (2 * 2 ^ k - 1))) k hk).mp (h k hk b hb)
        rw [h1, h2, e]
      · exact Or.inl q
    · have hc := c_l1 x hx 0 (by decide) k hk
      have h1 := deB_is.mp (h x hx (x &&& (2 * 2 ^ k - 1)) hc.2.2) k hk
      rcases h1 with q | q
      · exact absurd hc.2.1 q
      · exact (c_l2 _ (nib_lt f x) _ (nib_lt f (x &&& (2 * 2 ^ k - 1))) k hk).mpr q

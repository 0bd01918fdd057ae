/-! sixteen values in one long: each place by itself -/
theorem uN_and (f g : Int64) : uN (f &&& g) = uN f &&& uN g := by
  show (f.toUInt64 &&& g.toUInt64).toNat = _
  rw [UInt64.toNat_and]
  rfl
theorem uN_or2 (f g : Int64) : uN (f ||| g) = uN f ||| uN g := by
  show (f.toUInt64 ||| g.toUInt64).toNat = _
  rw [UInt64.toNat_or]
  rfl
theorem uN_xor2 (f g : Int64) : uN (f ^^^ g) = uN f ^^^ uN g := by
  show (f.toUInt64 ^^^ g.toUInt64).toNat = _
  rw [UInt64.toNat_xor]
  rfl
theorem nib_and (f g : Int64) (i : Nat) : nib (f &&& g) i = nib f i &&& nib g i := by
  unfold nib
  rw [uN_and, nib_16, Nat.and_div_two_pow, show (16 : Nat) = 2 ^ 4 from rfl, Nat.and_mod_two_pow]
theorem nib_or (f g : Int64) (i : Nat) : nib (f ||| g) i = nib f i ||| nib g i := by
  unfold nib
  rw [uN_or2, nib_16, Nat.or_div_two_pow, show (16 : Nat) = 2 ^ 4 from rfl, Nat.or_mod_two_pow]
theorem nib_xor (f g : Int64) (i : Nat) : nib (f ^^^ g) i = nib f i ^^^ nib g i := by
  unfold nib
  rw [uN_xor2, nib_16, Nat.xor_div_two_pow, show (16 : Nat) = 2 ^ 4 from rfl, Nat.xor_mod_two_pow]
def ng (n i : Nat) : Nat := n / 16 ^ i % 16
theorem ng_lt (n i : Nat) : ng n i < 16 := Nat.mod_lt _ (by decide)
theorem ng_s (n i : Nat) : n % 16 ^ (i + 1) = n % 16 ^ i + 16 ^ i * ng n i := by
  unfold ng
  rw [Nat.pow_succ, Nat.mod_mul]
theorem ng_p (i : Nat) : 0 < 16 ^ i := Nat.pow_pos (by decide)
/-- places that don't run over add each by itself -/
theorem ng_add {a b : Nat} : ∀ n, (∀ i, i < n → ng a i + ng b i < 16) → a % 16 ^ n + b % 16 ^ n < 16 ^ n
  | 0, _ => by simp [Nat.mod_one]
  | n + 1, h => by
    have h1 := ng_add n (fun i hi => h i (by omega))
    have h2 := h n (by omega)
    rw [ng_s a n, ng_s b n, Nat.pow_succ]
    have h3 : 16 ^ n * ng a n + 16 ^ n * ng b n ≤ 16 ^ n * 15 := by rw [← Nat.mul_add]; exact Nat.mul_le_mul_left _ (by omega)
    omega
theorem ng_add_at {a b i : Nat} (h : ∀ j, j ≤ i → ng a j + ng b j < 16) : ng (a + b) i = ng a i + ng b i := by
  have h1 := ng_add i (fun j hj => h j (by omega))
  have h2 := h i (Nat.le_refl _)
  have hp := ng_p i
  have e1 := Nat.div_add_mod a (16 ^ i)
  have e2 := Nat.div_add_mod b (16 ^ i)
  have e3 : (a + b) / 16 ^ i = a / 16 ^ i + b / 16 ^ i := by
    rw [Nat.div_eq_iff hp]
    rw [Nat.add_mul, Nat.mul_comm (a / 16 ^ i), Nat.mul_comm (b / 16 ^ i)]
    omega
  unfold ng at h2 ⊢
  rw [e3]
  omega
theorem ng_sub {a b : Nat} : ∀ n, (∀ i, i < n → ng b i ≤ ng a i) → b % 16 ^ n ≤ a % 16 ^ n
  | 0, _ => by simp [Nat.mod_one]
  | n + 1, h => by
    have h1 := ng_sub n (fun i hi => h i (by omega))
    have h3 : 16 ^ n * ng b n ≤ 16 ^ n * ng a n := Nat.mul_le_mul_left _ (h n (by omega))
    rw [ng_s a n, ng_s b n]
    omega
theorem ng_sub_at {a b i : Nat} (h : ∀ j, j ≤ i → ng b j ≤ ng a j) : ng (a - b) i = ng a i - ng b i ∨ a < b := by
  rcases Nat.lt_or_ge a b with q | q
  · exact Or.inr q
  · left
    have h1 := ng_sub i (fun j hj => h j (by omega))
    have h2 := h i (Nat.le_refl _)
    have hp := ng_p i
    have e1 := Nat.div_add_mod a (16 ^ i)
    have e2 := Nat.div_add_mod b (16 ^ i)
    have h3 := Nat.mod_lt a hp
    have h4 : b / 16 ^ i ≤ a / 16 ^ i := Nat.div_le_div_right q
    have e3 : (a - b) / 16 ^ i = a / 16 ^ i - b / 16 ^ i := by
      rw [Nat.div_eq_iff hp, Nat.sub_mul, Nat.mul_comm (a / 16 ^ i), Nat.mul_comm (b / 16 ^ i)]
      have h5 : 16 ^ i * (b / 16 ^ i) ≤ 16 ^ i * (a / 16 ^ i) := Nat.mul_le_mul_left _ h4
      omega
    unfold ng at h2 ⊢
    rw [e3]
    omega
theorem ng_mul {a k : Nat} : ∀ n, (∀ i, i < n → k * ng a i < 16) → 0 < k → k * (a % 16 ^ n) < 16 ^ n
  | 0, _, _ => by simp [Nat.mod_one]
  | n + 1, h, hk => by
    have h1 := ng_mul n (fun i hi => h i (by omega)) hk
    have h2 := h n (by omega)
    rw [ng_s a n, Nat.pow_succ, Nat.mul_add]
    have h3 : k * (16 ^ n * ng a n) ≤ 16 ^ n * 15 := by
      rw [Nat.mul_left_comm]
      exact Nat.mul_le_mul_left _ (by omega)
    omega
theorem ng_mul_at {a k i : Nat} (hk : 0 < k) (h : ∀ j, j ≤ i → k * ng a j < 16) : ng (k * a) i = k * ng a i := by
  have h1 := ng_mul i (fun j hj => h j (by omega)) hk
  have h2 := h i (Nat.le_refl _)
  have hp := ng_p i
  have e3 : k * a / 16 ^ i = k * (a / 16 ^ i) := by
    rw [Nat.div_eq_iff hp]
    have e1 := Nat.div_add_mod a (16 ^ i)
    have e4 : k * a = k * (a / 16 ^ i) * 16 ^ i + k * (a % 16 ^ i) := by
      have := congrArg (fun z => k * z) e1
      simp only [Nat.mul_add] at this
      rw [← this, Nat.mul_assoc, Nat.mul_comm (16 ^ i)]
    omega
  unfold ng at h2 ⊢
  rw [e3]
  have e5 : k * (a / 16 ^ i) = 16 * (k * (a / 16 ^ i / 16)) + k * (a / 16 ^ i % 16) := by
    have := congrArg (fun z => k * z) (Nat.div_add_mod (a / 16 ^ i) 16)
    simp only [Nat.mul_add] at this
    rw [← this, Nat.mul_left_comm]
  omega
theorem ng_ext {a b : Nat} (ha : a < 2 ^ 64) (hb : b < 2 ^ 64) (h : ∀ i, i < 16 → ng a i = ng b i) : a = b := by
  have hs : ∀ n, n ≤ 16 → a % 16 ^ n = b % 16 ^ n := by
    intro n
    induction n with
    | zero => intro _; simp [Nat.mod_one]
    | succ n ih => intro hn; rw [ng_s, ng_s, ih (by omega), h n (by omega)]
  have h1 := hs 16 (Nat.le_refl _)
  rw [show (16 : Nat) ^ 16 = 2 ^ 64 by decide, Nat.mod_eq_of_lt ha, Nat.mod_eq_of_lt hb] at h1
  exact h1
theorem nib_ext {f g : Int64} (h : ∀ i, i < 16 → nib f i = nib g i) : f = g := uN_inj (ng_ext (uN_lt f) (uN_lt g) h)
theorem ng_mod64 {a i : Nat} (h : i < 16) : ng (a % 2 ^ 64) i = ng a i := by
  unfold ng
  rw [show (2 : Nat) ^ 64 = 16 ^ i * 16 ^ (16 - i) by rw [← Nat.pow_add, show i + (16 - i) = 16 by omega], Nat.mod_mul_right_div_self]
  rw [show (16 : Nat) ^ (16 - i) = 16 * 16 ^ (15 - i) by rw [Nat.mul_comm, ← Nat.pow_succ]; congr 1; omega, Nat.mod_mul_right_mod]
/-- the places of a long that lists them -/
theorem nib_L : ∀ i, i < 16 → nib 8608480567731124087 i = 7 := by decide +kernel
theorem nib_T : ∀ i, i < 16 → nib (-8608480567731124088) i = 8 := by decide +kernel
theorem nib_1 : ∀ i, i < 16 → nib 1229782938247303441 i = 1 := by decide +kernel
theorem nib_m1 : ∀ i, i < 16 → nib (-1) i = 15 := by decide +kernel
theorem nib_0 : ∀ i, i < 16 → nib 0 i = 0 := by decide +kernel
theorem nib_add {f g : Int64} {i : Nat} (hi : i < 16) (h : ∀ j, j < 16 → nib f j + nib g j < 16) : nib (f + g) i = nib f i + nib g i := by
  show ng (uN (f + g)) i = _
  rw [uN_add, show (18446744073709551616 : Nat) = 2 ^ 64 from rfl, ng_mod64 hi]
  exact ng_add_at (fun j hj => h j (by omega))
theorem uN_sub {f g : Int64} (h : uN g ≤ uN f) : uN (f - g) = uN f - uN g := by
  have h1 := lN_sub h
  rw [lN_uN, lN_uN] at h1
  rw [h1, uN_lN (by have := uN_lt f; omega)]
theorem ng_le {a b : Nat} (ha : a < 2 ^ 64) (hb : b < 2 ^ 64) (h : ∀ i, i < 16 → ng b i ≤ ng a i) : b ≤ a := by
  have h1 := ng_sub 16 h
  rw [show (16 : Nat) ^ 16 = 2 ^ 64 by decide, Nat.mod_eq_of_lt ha, Nat.mod_eq_of_lt hb] at h1
  exact h1
theorem nib_sub {f g : Int64} {i : Nat} (hi : i < 16) (h : ∀ j, j < 16 → nib g j ≤ nib f j) : nib (f - g) i = nib f i - nib g i := by
  have h1 : uN g ≤ uN f := ng_le (uN_lt f) (uN_lt g) h
  show ng (uN (f - g)) i = _
  rw [uN_sub h1]
  rcases ng_sub_at (a := uN f) (b := uN g) (i := i) (fun j hj => h j (by omega)) with q | q
  · exact q
  · omega
theorem nib_mul15 {f : Int64} {i : Nat} (hi : i < 16) (h : ∀ j, j < 16 → nib f j ≤ 1) : nib (f * 15) i = 15 * nib f i := by
  show ng (uN (f * 15)) i = _
  rw [uN_mul, show (18446744073709551616 : Nat) = 2 ^ 64 from rfl, ng_mod64 hi, show uN 15 = 15 by decide, Nat.mul_comm]
  exact ng_mul_at (by decide) (fun j hj => by have h1 := h j (by omega); show 15 * nib f j < 16; omega)
theorem nib_ushr {f : Int64} {k i : Nat} (hk : k < 4) : nib (j_ushr f (nI k)) i = (uN f / 16 ^ i) / 2 ^ k % 16 := by
  unfold nib
  rw [uN_ushr f (by omega), Nat.div_div_eq_div_mul, Nat.mul_comm, ← Nat.div_div_eq_div_mul]
theorem v4 {P : Nat → Nat → Prop} (h : ∀ a, a < 16 → ∀ b, b < 16 → P a b) {a b : Nat} (ha : a < 16) (hb : b < 16) : P a b := h a ha b hb
theorem a7 (a : Nat) (h : a < 16) : a &&& 7 = a % 8 := Nat.and_two_pow_sub_one_eq_mod a 3
theorem nib_lo {f : Int64} {i : Nat} (hi : i < 16) : nib (f &&& 8608480567731124087) i = nib f i % 8 := by rw [nib_and, nib_L i hi, a7 _ (nib_lt f i)]
theorem c_su : ∀ a, a < 16 → ∀ b, b < 16 → (a % 8 + b % 8) ^^^ ((a ^^^ b) &&& 8) = (a + b) % 16 := by decide +kernel
theorem nib_su {f g : Int64} {i : Nat} (hi : i < 16) : nib (suF f g) i = (nib f i + nib g i) % 16 := by
  unfold suF
  rw [nib_xor, nib_add hi (fun j hj => by rw [nib_lo hj, nib_lo hj]; omega), nib_lo hi, nib_lo hi, nib_and, nib_xor, nib_T i hi]
  exact c_su _ (nib_lt f i) _ (nib_lt g i)
theorem c_di : ∀ a, a < 16 → ∀ b, b < 16 → b % 8 ≤ a ||| 8 ∧ ((a ||| 8) - b % 8) ^^^ ((a ^^^ (b ^^^ 15)) &&& 8) = (16 + a - b) % 16 := by decide +kernel
theorem nib_di {f g : Int64} {i : Nat} (hi : i < 16) : nib (diF f g) i = (16 + nib f i - nib g i) % 16 := by
  unfold diF
  rw [nib_xor, nib_sub hi (fun j hj => by rw [nib_lo hj, nib_or, nib_T j hj]; exact (c_di _ (nib_lt f j) _ (nib_lt g j)).1), nib_lo hi, nib_or, nib_T i hi, nib_and, nib_xor, nib_xor, nib_m1 i hi, nib_T i hi]
  exact (c_di _ (nib_lt f i) _ (nib_lt g i)).2
theorem nib_tw {f : Int64} {i : Nat} (hi : i < 16) : nib (twF f) i = 2 * nib f i % 16 := by
  have e : twF f = (f &&& 8608480567731124087) + (f &&& 8608480567731124087) := by
    apply uN_inj
    rw [uN_add]
    show uN ((f &&& 8608480567731124087) <<< ((1 : Int32).toInt64 &&& 63)) = _
    rw [uN_shl]
    congr 1
    omega
  rw [e, nib_add hi (fun j hj => by rw [nib_lo hj]; omega), nib_lo hi]
  have := nib_lt f i
  omega
theorem nib_ha {f : Int64} {i : Nat} (hi : i < 16) : nib (haF f) i = nib f i / 2 := by
  unfold haF
  rw [nib_lo hi, nib_ushr (by decide)]
  unfold nib
  omega
theorem nib_twN {f : Int64} {i : Nat} (hi : i < 16) : ∀ n, nib (twN f n) i = nib f i * 2 ^ n % 16
  | 0 => by have := nib_lt f i; show nib f i = _; omega
  | n + 1 => by
    show nib (twF (twN f n)) i = _
    rw [nib_tw hi, nib_twN hi n, Nat.pow_succ, ← Nat.mul_assoc]
    generalize nib f i * 2 ^ n = z
    omega
theorem c_w : ∀ a, a < 16 → a &&& 15 = a ∧ a &&& 0 = 0 ∧ a &&& 1 = a % 2 := by decide +kernel
theorem nib_w {g : Int64} {n i : Nat} (hn : n < 4) (hi : i < 16) : nib ((j_ushr g (nI n) &&& 1229782938247303441) * 15) i = 15 * (nib g i / 2 ^ n % 2) := by
  have e : ∀ j, j < 16 → nib (j_ushr g (nI n) &&& 1229782938247303441) j = nib g j / 2 ^ n % 2 := by
    intro j hj
    rw [nib_and, nib_1 j hj, (c_w _ (nib_lt _ _)).2.2, nib_ushr hn]
    unfold nib
    rcases (show n = 0 ∨ n = 1 ∨ n = 2 ∨ n = 3 by omega) with rfl | rfl | rfl | rfl <;> simp only [Nat.reducePow] <;> omega
  rw [nib_mul15 hi (fun j hj => by rw [e j hj]; omega), e i hi]
def pr4 (a b : Nat) : Nat → Nat | 0 => 0 | n + 1 => (pr4 a b n + (a * 2 ^ n % 16 &&& 15 * (b / 2 ^ n % 2))) % 16
theorem c_pr : ∀ a, a < 16 → ∀ b, b < 16 → pr4 a b 4 = a * b % 16 := by decide +kernel
theorem nib_prN {f g : Int64} {i : Nat} (hi : i < 16) : ∀ n, n ≤ 4 → nib (prN f g n) i = pr4 (nib f i) (nib g i) n
  | 0, _ => nib_0 i hi
  | n + 1, h => by
    show nib (suF (prN f g n) (twN f n &&& ((j_ushr g (nI n) &&& 1229782938247303441) * 15))) i = _
    rw [nib_su hi, nib_prN hi n (by omega), nib_and, nib_twN hi, nib_w (by omega) hi]
    rfl
theorem nib_pr {f g : Int64} {i : Nat} (hi : i < 16) : nib (prN f g 4) i = nib f i * nib g i % 16 := by rw [nib_prN hi 4 (Nat.le_refl _)]; exact c_pr _ (nib_lt f i) _ (nib_lt g i)
theorem c_bw : ∀ a, a < 16 → ∀ b, b < 16 → a &&& b < 16 ∧ a ||| b < 16 ∧ a ^^^ b < 16 ∧ a ^^^ 15 = 15 - a := by decide +kernel
theorem nib_ma {op : Nat} (h : op < 10) (f g : Int64) {i : Nat} (hi : i < 16) : nib (maF op f g) i = rek op (nib f i) (nib g i) % 16 := by
  have hf := nib_lt f i
  have hg := nib_lt g i
  obtain ⟨b1, b2, b3, b4⟩ := c_bw _ hf _ hg
  rcases (show op = 0 ∨ op = 1 ∨ op = 2 ∨ op = 3 ∨ op = 4 ∨ op = 5 ∨ op = 6 ∨ op = 7 ∨ op = 8 ∨ op = 9 by omega) with rfl | rfl | rfl | rfl | rfl | rfl | rfl | rfl | rfl | rfl
  · show nib (f ^^^ (-1)) i = (15 - nib f i) % 16
    rw [nib_xor, nib_m1 i hi, b4]; omega
  · show nib (diF 0 f) i = (16 - nib f i) % 16
    rw [nib_di hi, nib_0 i hi]
  · show nib (twF f) i = 2 * nib f i % 16
    exact nib_tw hi
  · show nib (haF f) i = nib f i / 2 % 16
    rw [nib_ha hi]; omega
  · show nib (f &&& g) i = (nib f i &&& nib g i) % 16
    rw [nib_and, Nat.mod_eq_of_lt b1]
  · show nib (f ||| g) i = (nib f i ||| nib g i) % 16
    rw [nib_or, Nat.mod_eq_of_lt b2]
  · show nib (f ^^^ g) i = (nib f i ^^^ nib g i) % 16
    rw [nib_xor, Nat.mod_eq_of_lt b3]
  · exact nib_su hi
  · exact nib_di hi
  · exact nib_pr hi
/-- a long laid place by place -/
theorem uN_sh4 {v i : Nat} (hv : v < 16) (hi : i < 16) : uN (j_shl (Int32.toInt64 (nI v)) (nI (4 * i))) = v * 16 ^ i := by
  have h1 : (v * 16 ^ i) < 2 ^ 64 := by
    have h2 : 16 ^ i * 16 ≤ 16 ^ 16 := by rw [← Nat.pow_succ]; exact Nat.pow_le_pow_right (by decide) (by omega)
    have h3 : v * 16 ^ i ≤ 15 * 16 ^ i := Nat.mul_le_mul_right _ (by omega)
    have h4 := ng_p i
    rw [show (16 : Nat) ^ 16 = 2 ^ 64 by decide] at h2
    omega
  rw [nI_l (show v < 2 ^ 31 by omega)]
  show uN (lN v <<< ((nI (4 * i)).toInt64 &&& 63)) = _
  rw [wb_shl v (by omega), ← nib_16, uN_lN h1]
theorem or_lay {a v i : Nat} (ha : a < 16 ^ i) : a ||| v * 16 ^ i = a + v * 16 ^ i := by
  rw [nib_16] at ha ⊢
  have h := Nat.two_pow_add_eq_or_of_lt ha v
  rw [Nat.or_comm, Nat.mul_comm, ← h, Nat.add_comm]
def layN (v : Nat → Nat) : Nat → Nat | 0 => 0 | i + 1 => layN v i + v i * 16 ^ i
theorem layN_lt {v : Nat → Nat} (hv : ∀ i, v i < 16) : ∀ n, layN v n < 16 ^ n
  | 0 => by show 0 < 1; decide
  | n + 1 => by
    have h1 := layN_lt hv n
    have h2 : v n * 16 ^ n ≤ 15 * 16 ^ n := Nat.mul_le_mul_right _ (by have := hv n; omega)
    show layN v n + v n * 16 ^ n < 16 ^ (n + 1)
    rw [Nat.pow_succ]
    omega
theorem layN_ng {v : Nat → Nat} (hv : ∀ i, v i < 16) : ∀ n i, i < n → ng (layN v n) i = v i
  | 0, i, h => absurd h (Nat.not_lt_zero i)
  | n + 1, i, h => by
    show (layN v n + v n * 16 ^ n) / 16 ^ i % 16 = v i
    rcases Nat.lt_or_ge i n with q | q
    · rw [show (16 : Nat) ^ n = 16 ^ i * (16 * 16 ^ (n - i - 1)) by rw [← Nat.mul_assoc, ← Nat.pow_succ, ← Nat.pow_add]; congr 1; omega, Nat.mul_left_comm, Nat.add_mul_div_left _ _ (ng_p i), Nat.mul_left_comm, Nat.add_mul_mod_self_left]
      exact layN_ng hv n i q
    · obtain rfl : i = n := by omega
      rw [Nat.add_mul_div_right _ _ (ng_p i), Nat.div_eq_of_lt (layN_lt hv i), Nat.zero_add]
      exact Nat.mod_eq_of_lt (hv i)
theorem md_lay (op : Nat) (f g : Int64) : ∀ n, n ≤ 16 → uN (mdN op f g n) = layN (fun i => rek op (nib f i) (nib g i) % 16) n
  | 0, _ => rfl
  | n + 1, h => by
    have hv : ∀ i, rek op (nib f i) (nib g i) % 16 < 16 := fun i => Nat.mod_lt _ (by decide)
    show uN (mdN op f g n ||| j_shl (Int32.toInt64 (nI (rek op (nib f n) (nib g n) % 16))) (nI (4 * n))) = _
    rw [uN_or2, uN_sh4 (hv n) (by omega), md_lay op f g n (by omega), or_lay (layN_lt hv n)]
    rfl
theorem md_ma2 {op : Nat} (h : op < 10) (f g : Int64) : mdN op f g 16 = maF op f g := by
  apply nib_ext
  intro i hi
  rw [nib_ma h f g hi]
  show ng (uN (mdN op f g 16)) i = _
  rw [md_lay op f g 16 (Nat.le_refl _)]
  exact layN_ng (fun i => Nat.mod_lt _ (by decide)) 16 i hi

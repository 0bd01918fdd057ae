/-! counting bits, four at a time -/
theorem ng_and (a b i : Nat) : ng (a &&& b) i = ng a i &&& ng b i := by
  unfold ng
  rw [nib_16, Nat.and_div_two_pow, show (16 : Nat) = 2 ^ 4 from rfl, Nat.and_mod_two_pow]
theorem ng_sh (a k i : Nat) : ng (a / 2 ^ k) i = (a / 16 ^ i) / 2 ^ k % 16 := by
  unfold ng
  rw [Nat.div_div_eq_div_mul, Nat.mul_comm, ← Nat.div_div_eq_div_mul]
theorem ng_nx (a i : Nat) : ng (a / 16) i = ng a (i + 1) := by
  unfold ng
  rw [Nat.div_div_eq_div_mul, Nat.pow_succ, Nat.mul_comm]
def pc4 (v : Nat) : Nat := v % 2 + v / 2 % 2 + v / 4 % 2 + v / 8
theorem c_s1 : ∀ v, v < 16 → (v / 2 &&& 5) ≤ v ∧ ∀ z, z < 2 → ((v / 2 + 8 * z) &&& 5) = (v / 2 &&& 5) := by decide +kernel
theorem c_s2 : ∀ v, v < 16 → ((v &&& 3) < 4 ∧ (v / 4 &&& 3) < 4) ∧ ∀ z, z < 4 → ((v / 4 + 4 * z) &&& 3) = (v / 4 &&& 3) := by decide +kernel
theorem c_s3 : ∀ v, v < 16 → ((v - (v / 2 &&& 5)) &&& 3) + ((v - (v / 2 &&& 5)) / 4 &&& 3) = pc4 v ∧ pc4 v ≤ 4 := by decide +kernel
theorem sh1 (a i : Nat) : ∃ z, z < 2 ∧ ng (a / 2 ^ 1) i = ng a i / 2 + 8 * z := by
  refine ⟨a / 16 ^ i / 16 % 2, by omega, ?_⟩
  rw [ng_sh]
  unfold ng
  simp only [Nat.reducePow]
  omega
theorem sh2 (a i : Nat) : ∃ z, z < 4 ∧ ng (a / 2 ^ 2) i = ng a i / 4 + 4 * z := by
  refine ⟨a / 16 ^ i / 16 % 4, by omega, ?_⟩
  rw [ng_sh]
  unfold ng
  simp only [Nat.reducePow]
  omega
/-- the first two steps, at the places where the masks have 5 and 3 -/
theorem pc_12 {a m5 m3 n : Nat} (h5 : ∀ i, i < n → ng m5 i = 5) (h3 : ∀ i, i < n → ng m3 i = 3) {b : Nat} (hb : b = a - (a / 2 ^ 1 &&& m5)) (hge : (a / 2 ^ 1 &&& m5) ≤ a) {i : Nat} (hi : i < n) : ng ((b &&& m3) + (b / 2 ^ 2 &&& m3)) i = pc4 (ng a i) := by
  have e1 : ∀ j, j < n → ng (a / 2 ^ 1 &&& m5) j = (ng a j / 2 &&& 5) := by
    intro j hj
    obtain ⟨z, hz, e⟩ := sh1 a j
    rw [ng_and, h5 j hj, e]
    exact (c_s1 _ (ng_lt a j)).2 z hz
  have e2 : ∀ j, j < n → ng b j = ng a j - (ng a j / 2 &&& 5) := by
    intro j hj
    rw [hb]
    rcases ng_sub_at (a := a) (b := a / 2 ^ 1 &&& m5) (i := j) (fun k hk => by rw [e1 k (by omega)]; exact (c_s1 _ (ng_lt a k)).1) with q | q
    · rw [q, e1 j hj]
    · omega
  have e3 : ∀ j, j < n → ng (b &&& m3) j = (ng b j &&& 3) := fun j hj => by rw [ng_and, h3 j hj]
  have e4 : ∀ j, j < n → ng (b / 2 ^ 2 &&& m3) j = (ng b j / 4 &&& 3) := by
    intro j hj
    obtain ⟨z, hz, e⟩ := sh2 b j
    rw [ng_and, h3 j hj, e]
    exact (c_s2 _ (ng_lt b j)).2 z hz
  rw [ng_add_at (fun j hj => by
    have hjn : j < n := by omega
    have h7 := (c_s2 _ (ng_lt b j)).1
    rw [e3 j hjn, e4 j hjn]; omega), e3 i hi, e4 i hi, e2 i hi]
  exact (c_s3 _ (ng_lt a i)).1
theorem ng_bnd {a n : Nat} (h : a < 16 ^ n) {i : Nat} (hi : n ≤ i) : ng a i = 0 := by
  unfold ng
  rw [Nat.div_eq_of_lt (Nat.lt_of_lt_of_le h (Nat.pow_le_pow_right (by decide) hi))]
theorem ng_exp {a n : Nat} (h : a < 16 ^ n) : a = layN (ng a) n := by
  have hs : ∀ k, a % 16 ^ k = layN (ng a) k := by
    intro k
    induction k with
    | zero => simp [Nat.mod_one, layN]
    | succ k ih =>
      rw [ng_s, ih]
      show _ = layN (ng a) k + ng a k * 16 ^ k
      rw [Nat.mul_comm]
  have h1 := hs n
  rwa [Nat.mod_eq_of_lt h] at h1
theorem m5_16 : ∀ i, i < 16 → ng 6148914691236517205 i = 5 := by decide +kernel
theorem m3_16 : ∀ i, i < 16 → ng 3689348814741910323 i = 3 := by decide +kernel
theorem m5_8 : ∀ i, i < 8 → ng 1431655765 i = 5 := by decide +kernel
theorem m3_8 : ∀ i, i < 8 → ng 858993459 i = 3 := by decide +kernel
def s16 (v : Nat → Nat) : Nat := v 0 + v 1 + v 2 + v 3 + v 4 + v 5 + v 6 + v 7 + v 8 + v 9 + v 10 + v 11 + v 12 + v 13 + v 14 + v 15
theorem and_15 (a : Nat) : a &&& 15 = a % 16 := Nat.and_two_pow_sub_one_eq_mod a 4
/-- the count of sixteen bits in an int -/
theorem ibc_n {n : Nat} (h : n < 65536) : ibc (nI n) = nI (pc4 (ng n 0) + pc4 (ng n 1) + pc4 (ng n 2) + pc4 (ng n 3)) := by
  have hn4 : n < 16 ^ 4 := by rw [show (16 : Nat) ^ 4 = 65536 by decide]; exact h
  have hq : (n / 2 ^ 1 &&& 1431655765) ≤ n := Nat.le_trans Nat.and_le_left (Nat.div_le_self _ _)
  have i1 : ib1 (nI n) = nI (n - (n / 2 ^ 1 &&& 1431655765)) := by
    unfold ib1
    rw [ni_ushr (by omega) (by decide), niand, pk_sub hq]
  generalize hb : n - (n / 2 ^ 1 &&& 1431655765) = b at i1
  have hbn : b ≤ n := by omega
  have i2 : ib2 (nI b) = nI ((b &&& 858993459) + (b / 2 ^ 2 &&& 858993459)) := by
    unfold ib2
    rw [ni_ushr (by omega) (by decide), niand, niand, nI_add]
  have p12 : ∀ i, i < 8 → ng ((b &&& 858993459) + (b / 2 ^ 2 &&& 858993459)) i = pc4 (ng n i) := fun i hi => pc_12 m5_8 m3_8 hb.symm hq hi
  have hc : (b &&& 858993459) + (b / 2 ^ 2 &&& 858993459) < 16 ^ 8 := by
    have h1 : (b &&& 858993459) ≤ 858993459 := Nat.and_le_right
    have h2 : (b / 2 ^ 2 &&& 858993459) ≤ 858993459 := Nat.and_le_right
    have h3 : (16 : Nat) ^ 8 = 4294967296 := by decide
    omega
  generalize (b &&& 858993459) + (b / 2 ^ 2 &&& 858993459) = d at i2 p12 hc
  have hd := ng_exp hc
  have z : ∀ i, 4 ≤ i → pc4 (ng n i) = 0 := fun i hi => by rw [ng_bnd hn4 hi]; rfl
  have k0 := (c_s3 _ (ng_lt n 0)).2
  have k1 := (c_s3 _ (ng_lt n 1)).2
  have k2 := (c_s3 _ (ng_lt n 2)).2
  have k3 := (c_s3 _ (ng_lt n 3)).2
  have hd2 : d = pc4 (ng n 0) + pc4 (ng n 1) * 16 + pc4 (ng n 2) * 256 + pc4 (ng n 3) * 4096 := by
    have e : layN (ng d) 8 = 0 + ng d 0 * 1 + ng d 1 * 16 + ng d 2 * 256 + ng d 3 * 4096 + ng d 4 * 65536 + ng d 5 * 1048576 + ng d 6 * 16777216 + ng d 7 * 268435456 := rfl
    rw [e, p12 0 (by decide), p12 1 (by decide), p12 2 (by decide), p12 3 (by decide), p12 4 (by decide), p12 5 (by decide), p12 6 (by decide), p12 7 (by decide), z 4 (by decide), z 5 (by decide), z 6 (by decide), z 7 (by decide)] at hd
    omega
  generalize pc4 (ng n 0) = q0 at *
  generalize pc4 (ng n 1) = q1 at *
  generalize pc4 (ng n 2) = q2 at *
  generalize pc4 (ng n 3) = q3 at *
  have i3 : ib3 (nI d) = nI (q0 + q1 + (q2 + q3) * 256) := by
    unfold ib3
    rw [ni_ushr (by omega) (by decide), nI_add, niand]
    congr 1
    have e1 : d + d / 2 ^ 4 = (q0 + q1) + (q1 + q2) * 16 + (q2 + q3) * 256 + q3 * 4096 := by
      simp only [Nat.reducePow]; omega
    rw [e1]
    have hlt : (q0 + q1) + (q1 + q2) * 16 + (q2 + q3) * 256 + q3 * 4096 < 65536 := by omega
    have hX : ∀ x y z w : Nat, x < 16 → y < 16 → z < 16 → w < 16 → (x + y * 16 + z * 256 + w * 4096) &&& 252645135 = x + z * 256 := by
      intro x y z w hx hy hz hw
      have hM : (252645135 : Nat) < 2 ^ 64 := by decide
      refine ng_ext (Nat.lt_of_le_of_lt Nat.and_le_right hM) (by omega) (fun i hi => ?_)
      rw [ng_and]
      unfold ng
      rcases (show i = 0 ∨ i = 1 ∨ i = 2 ∨ i = 3 ∨ 4 ≤ i by omega) with rfl | rfl | rfl | rfl | hi4
      · simp only [Nat.reducePow, Nat.reduceDiv, Nat.reduceMod]; rw [and_15]; omega
      · simp only [Nat.reducePow, Nat.reduceDiv, Nat.reduceMod]; rw [Nat.and_zero]; omega
      · simp only [Nat.reducePow, Nat.reduceDiv, Nat.reduceMod]; rw [and_15]; omega
      · simp only [Nat.reducePow, Nat.reduceDiv, Nat.reduceMod]; rw [Nat.and_zero]; omega
      · have hp : 65536 ≤ 16 ^ i := by rw [show (65536 : Nat) = 16 ^ 4 by decide]; exact Nat.pow_le_pow_right (by decide) hi4
        rw [Nat.div_eq_of_lt (show x + y * 16 + z * 256 + w * 4096 < 16 ^ i by omega), Nat.div_eq_of_lt (show x + z * 256 < 16 ^ i by omega)]
        simp
    exact hX (q0 + q1) (q1 + q2) (q2 + q3) q3 (by omega) (by omega) (by omega) (by omega)
  have i4 : ib4 (nI (q0 + q1 + (q2 + q3) * 256)) 8 = nI (q0 + q1 + q2 + q3 + (q2 + q3) * 256) := by
    unfold ib4
    rw [ni_ushr (by omega) (by decide), nI_add]
    congr 1
    simp only [Nat.reducePow]; omega
  have i5 : ib4 (nI (q0 + q1 + q2 + q3 + (q2 + q3) * 256)) 16 = nI (q0 + q1 + q2 + q3 + (q2 + q3) * 256) := by
    unfold ib4
    rw [ni_ushr (by omega) (by decide), nI_add]
    congr 1
    simp only [Nat.reducePow]; omega
  unfold ibc
  rw [i1, i2, i3, i4, i5, niand, show (63 : Nat) = 2 ^ 6 - 1 from rfl, Nat.and_two_pow_sub_one_eq_mod]
  congr 1
  simp only [Nat.reducePow]
  omega
theorem ibc_16 {n : Nat} (h : n < 65536) : (ibc (nI n)).toInt ≤ 16 := by
  rw [ibc_n h]
  have k0 := (c_s3 _ (ng_lt n 0)).2
  have k1 := (c_s3 _ (ng_lt n 1)).2
  have k2 := (c_s3 _ (ng_lt n 2)).2
  have k3 := (c_s3 _ (ng_lt n 3)).2
  rw [nI_toInt (by omega)]
  omega
theorem mF_16 : ∀ i, i < 16 → ng 1085102592571150095 i = (if i % 2 = 0 then 15 else 0) := by decide +kernel
theorem uN_5 : uN 6148914691236517205 = 6148914691236517205 := by decide
theorem uN_3 : uN 3689348814741910323 = 3689348814741910323 := by decide
theorem uN_F : uN 1085102592571150095 = 1085102592571150095 := by decide
theorem and_ev (a : Nat) (h : a < 16) (i : Nat) : (a &&& (if i % 2 = 0 then 15 else 0)) = if i % 2 = 0 then a else 0 := by
  split
  · rw [and_15]; exact Nat.mod_eq_of_lt h
  · exact Nat.and_zero a
theorem key8 (c0 c1 c2 c3 c4 c5 c6 c7 : Nat) (h0 : c0 ≤ 8) (h1 : c1 ≤ 8) (h2 : c2 ≤ 8) (h3 : c3 ≤ 8) (h4 : c4 ≤ 8) (h5 : c5 ≤ 8) (h6 : c6 ≤ 8) (h7 : c7 ≤ 8) {F : Nat} (hF : F = (c0 + c1) + (c1 + c2) * 256 + (c2 + c3) * 65536 + (c3 + c4) * 16777216 + (c4 + c5) * 4294967296 + (c5 + c6) * 1099511627776 + (c6 + c7) * 281474976710656 + c7 * 72057594037927936) : (F + F / 65536 + (F + F / 65536) / 4294967296) % 128 = c0 + c1 + c2 + c3 + c4 + c5 + c6 + c7 := by
  have e1 : F / 65536 = (c2 + c3) + (c3 + c4) * 256 + (c4 + c5) * 65536 + (c5 + c6) * 16777216 + (c6 + c7) * 4294967296 + c7 * 1099511627776 := by omega
  generalize hG : F + F / 65536 = G
  have e2 : G = (c0 + c1 + c2 + c3) + (c1 + c2 + c3 + c4) * 256 + (c2 + c3 + c4 + c5) * 65536 + (c3 + c4 + c5 + c6) * 16777216 + (c4 + c5 + c6 + c7) * 4294967296 + (c5 + c6 + c7) * 1099511627776 + (c6 + c7) * 281474976710656 + c7 * 72057594037927936 := by omega
  clear hG hF e1
  have e3 : G / 4294967296 = (c4 + c5 + c6 + c7) + (c5 + c6 + c7) * 256 + (c6 + c7) * 65536 + c7 * 16777216 := by omega
  omega
theorem key7 (c0 c1 c2 c3 c4 c5 c6 c7 : Nat) (h0 : c0 ≤ 8) (h1 : c1 ≤ 8) (h2 : c2 ≤ 8) (h3 : c3 ≤ 8) (h4 : c4 ≤ 8) (h5 : c5 ≤ 8) (h6 : c6 ≤ 8) (h7 : c7 ≤ 8) {W : Nat} (hW : W = c0 + c1 * 256 + c2 * 65536 + c3 * 16777216 + c4 * 4294967296 + c5 * 1099511627776 + c6 * 281474976710656 + c7 * 72057594037927936) : W ≤ 578721382704613384 ∧ W + W / 256 = (c0 + c1) + (c1 + c2) * 256 + (c2 + c3) * 65536 + (c3 + c4) * 16777216 + (c4 + c5) * 4294967296 + (c5 + c6) * 1099511627776 + (c6 + c7) * 281474976710656 + c7 * 72057594037927936 := by
  have e1 : W / 256 = c1 + c2 * 256 + c3 * 65536 + c4 * 16777216 + c5 * 4294967296 + c6 * 1099511627776 + c7 * 281474976710656 := by omega
  constructor
  · omega
  · omega
theorem fin8 (w : Int64) (c0 c1 c2 c3 c4 c5 c6 c7 : Nat) (h0 : c0 ≤ 8) (h1 : c1 ≤ 8) (h2 : c2 ≤ 8) (h3 : c3 ≤ 8) (h4 : c4 ≤ 8) (h5 : c5 ≤ 8) (h6 : c6 ≤ 8) (h7 : c7 ≤ 8) (hW : uN w = c0 + c1 * 256 + c2 * 65536 + c3 * 16777216 + c4 * 4294967296 + c5 * 1099511627776 + c6 * 281474976710656 + c7 * 72057594037927936) : Int64.toInt32 (lb4 (lb4 (lb4 w 8) 16) 32) &&& nI 127 = nI (c0 + c1 + c2 + c3 + c4 + c5 + c6 + c7) := by
  obtain ⟨k1, k2⟩ := key7 c0 c1 c2 c3 c4 c5 c6 c7 h0 h1 h2 h3 h4 h5 h6 h7 hW
  have hk := key8 c0 c1 c2 c3 c4 c5 c6 c7 h0 h1 h2 h3 h4 h5 h6 h7 k2
  clear k2 hW h0 h1 h2 h3 h4 h5 h6 h7
  have g1 : uN (lb4 w 8) = uN w + uN w / 256 := by
    unfold lb4
    rw [uN_add, uN_ushr w (by decide)]
    simp only [Nat.reducePow]
    exact Nat.mod_eq_of_lt (by omega)
  have g2 : uN (lb4 (lb4 w 8) 16) = uN (lb4 w 8) + uN (lb4 w 8) / 65536 := by
    rw [show lb4 (lb4 w 8) 16 = lb4 w 8 + j_ushr (lb4 w 8) (nI 16) from rfl, uN_add, uN_ushr _ (by decide)]
    simp only [Nat.reducePow]
    exact Nat.mod_eq_of_lt (by omega)
  have g3 : uN (lb4 (lb4 (lb4 w 8) 16) 32) = uN (lb4 (lb4 w 8) 16) + uN (lb4 (lb4 w 8) 16) / 4294967296 := by
    rw [show lb4 (lb4 (lb4 w 8) 16) 32 = lb4 (lb4 w 8) 16 + j_ushr (lb4 (lb4 w 8) 16) (nI 32) from rfl, uN_add, uN_ushr _ (by decide)]
    simp only [Nat.reducePow]
    exact Nat.mod_eq_of_lt (by omega)
  rw [l2i_low _ 127 7 rfl (by decide), g3, g2, g1]
  congr 1
/-- the nibbles of a count's third step -/
theorem lay_2 {u : Nat → Nat} {k : Nat} (h0 : u (2 * k + 1) = 0) : layN u (2 * (k + 1)) = layN u (2 * k) + u (2 * k) * 256 ^ k := by
  show layN u (2 * k) + u (2 * k) * 16 ^ (2 * k) + u (2 * k + 1) * 16 ^ (2 * k + 1) = _
  rw [h0, Nat.zero_mul, Nat.add_zero, Nat.pow_mul, show (16 : Nat) ^ 2 = 256 by decide]
def ev8 (v : Nat → Nat) : Nat → Nat | 0 => 0 | k + 1 => ev8 v k + v (2 * k) * 256 ^ k
theorem ev_s (v : Nat → Nat) (k : Nat) : ev8 v (k + 1) = ev8 v k + v (2 * k) * 256 ^ k := rfl
theorem ev_8 {u v : Nat → Nat} (h : ∀ k, k < 8 → u (2 * k) = v (2 * k) ∧ u (2 * k + 1) = 0) : ∀ k, k ≤ 8 → layN u (2 * k) = ev8 v k
  | 0, _ => rfl
  | k + 1, hk => by rw [lay_2 (h k (by omega)).2, (h k (by omega)).1, ev_8 h k (by omega), ev_s]
theorem ev_x (v : Nat → Nat) : ev8 v 8 = v 0 + v 2 * 256 + v 4 * 65536 + v 6 * 16777216 + v 8 * 4294967296 + v 10 * 1099511627776 + v 12 * 281474976710656 + v 14 * 72057594037927936 := by
  rw [ev_s v 7, ev_s v 6, ev_s v 5, ev_s v 4, ev_s v 3, ev_s v 2, ev_s v 1, ev_s v 0, show ev8 v 0 = 0 from rfl]
  simp only [Nat.reducePow, Nat.reduceMul, Nat.mul_one, Nat.zero_add]
theorem exp8 {E : Nat} {v : Nat → Nat} (hE : E < 18446744073709551616) (h : ∀ i, i < 16 → ng E i = if i % 2 = 0 then v i else 0) : E = v 0 + v 2 * 256 + v 4 * 65536 + v 6 * 16777216 + v 8 * 4294967296 + v 10 * 1099511627776 + v 12 * 281474976710656 + v 14 * 72057594037927936 := by
  have h1 : E = layN (ng E) (2 * 8) := ng_exp (n := 2 * 8) (by rw [show (16 : Nat) ^ (2 * 8) = 18446744073709551616 by decide]; exact hE)
  rw [ev_8 (v := v) (fun k hk => ⟨by rw [h _ (by omega), if_pos (by omega)], by rw [h _ (by omega), if_neg (by omega)]⟩) 8 (Nat.le_refl 8), ev_x] at h1
  exact h1
/-- the count of the bits of a long -/
theorem lbc_n (x : Int64) : lbc x = nI (s16 (fun i => pc4 (nib x i))) := by
  show Int64.toInt32 (lb4 (lb4 (lb4 (lb3 (lb2 (lb1 x))) 8) 16) 32) &&& nI 127 = _
  have hx := uN_lt x
  have hq : (uN x / 2 ^ 1 &&& 6148914691236517205) ≤ uN x := Nat.le_trans Nat.and_le_left (Nat.div_le_self _ _)
  have j1 : uN (lb1 x) = uN x - (uN x / 2 ^ 1 &&& 6148914691236517205) := by
    unfold lb1
    have e : uN (j_ushr x (nI 1) &&& 6148914691236517205) = (uN x / 2 ^ 1 &&& 6148914691236517205) := by rw [uN_and, uN_ushr x (by decide), uN_5]
    rw [uN_sub (by rw [e]; exact hq), e]
  generalize lb1 x = y at j1 ⊢
  have j2 : uN (lb2 y) = (uN y &&& 3689348814741910323) + (uN y / 2 ^ 2 &&& 3689348814741910323) := by
    unfold lb2
    have h1 : (uN y &&& 3689348814741910323) ≤ 3689348814741910323 := Nat.and_le_right
    have h2 : (uN y / 2 ^ 2 &&& 3689348814741910323) ≤ 3689348814741910323 := Nat.and_le_right
    rw [uN_add, uN_and, uN_and, uN_ushr y (by decide), uN_3]
    exact Nat.mod_eq_of_lt (by omega)
  have p12 : ∀ i, i < 16 → ng (uN (lb2 y)) i = pc4 (nib x i) := fun i hi => by rw [j2]; exact pc_12 m5_16 m3_16 j1 hq hi
  generalize lb2 y = d at p12 ⊢
  have hd : ng (uN d) 15 ≤ 4 := by rw [p12 15 (by decide)]; exact (c_s3 _ (nib_lt x 15)).2
  have hdl : uN d < 5 * 16 ^ 15 := by
    have h1 : uN d / 16 ^ 15 % 16 ≤ 4 := hd
    have h2 := uN_lt d
    have h3 : (16 : Nat) ^ 15 = 1152921504606846976 := by decide
    rw [h3] at h1 ⊢
    omega
  have h15 : (16 : Nat) ^ 15 = 1152921504606846976 := by decide
  have j3 : ∀ i, i < 16 → ng (uN (lb3 d)) i = if i % 2 = 0 then pc4 (nib x i) + (if i = 15 then 0 else pc4 (nib x (i + 1))) else 0 := by
    intro i hi
    have e1 : uN (lb3 d) = (uN d + uN d / 16) &&& 1085102592571150095 := by
      unfold lb3
      rw [uN_and, uN_add, uN_ushr d (by decide), uN_F, show (2 : Nat) ^ 4 = 16 by decide]
      rw [Nat.mod_eq_of_lt (show uN d + uN d / 16 < 18446744073709551616 by omega)]
    have e2 : ∀ j, j < 16 → ng (uN d / 16) j = if j = 15 then 0 else pc4 (nib x (j + 1)) := by
      intro j hj
      rw [ng_nx]
      by_cases q : j = 15
      · rw [if_pos q, q]; exact ng_bnd (n := 16) (by rw [show (16 : Nat) ^ 16 = 18446744073709551616 by decide]; exact uN_lt d) (by decide)
      · rw [if_neg q]; exact p12 (j + 1) (by omega)
    have e3 : ∀ j, j < 16 → (if j = 15 then 0 else pc4 (nib x (j + 1))) ≤ 4 := by
      intro j hj
      split
      · decide
      · exact (c_s3 _ (nib_lt x (j + 1))).2
    have e4 : ng (uN d + uN d / 16) i = pc4 (nib x i) + (if i = 15 then 0 else pc4 (nib x (i + 1))) := by
      rw [ng_add_at (fun j hj => by
        rw [p12 j (by omega), e2 j (by omega)]
        have h1 := (c_s3 _ (nib_lt x j)).2
        have h2 := e3 j (by omega)
        omega), p12 i hi, e2 i hi]
    rw [e1, ng_and, mF_16 i hi, and_ev _ (ng_lt _ i), e4]
  have k : ∀ i, pc4 (nib x i) ≤ 4 := fun i => (c_s3 _ (nib_lt x i)).2
  have hE := exp8 (v := fun i => pc4 (nib x i) + (if i = 15 then 0 else pc4 (nib x (i + 1)))) (uN_lt (lb3 d)) j3
  have hF := fin8 (lb3 d) (pc4 (nib x 0) + pc4 (nib x 1)) (pc4 (nib x 2) + pc4 (nib x 3)) (pc4 (nib x 4) + pc4 (nib x 5)) (pc4 (nib x 6) + pc4 (nib x 7)) (pc4 (nib x 8) + pc4 (nib x 9)) (pc4 (nib x 10) + pc4 (nib x 11)) (pc4 (nib x 12) + pc4 (nib x 13)) (pc4 (nib x 14) + pc4 (nib x 15)) (Nat.add_le_add (k 0) (k 1)) (Nat.add_le_add (k 2) (k 3)) (Nat.add_le_add (k 4) (k 5)) (Nat.add_le_add (k 6) (k 7)) (Nat.add_le_add (k 8) (k 9)) (Nat.add_le_add (k 10) (k 11)) (Nat.add_le_add (k 12) (k 13)) (Nat.add_le_add (k 14) (k 15)) hE
  rw [hF]
  unfold s16
  congr 1
  simp only [Nat.add_assoc]

/-! the mean cost is no more than the budget and 1: small whole numbers as doubles, read by the kernel -/
def fGd (k : Nat) : Bool := match FP.Core.decode FP.Core.b64 (FP.i2d (nI k)).toNat with
  | .fin s c q => decide (s = false ∧ ((k = 0 ∧ c = 0) ∨ (q = -(((-q).toNat : Nat) : Int) ∧ 40 ≤ (-q).toNat ∧ (-q).toNat ≤ 52 ∧ c = k * 2 ^ (-q).toNat ∧ 4503599627370496 ≤ c ∧ c < 9007199254740992)))
  | _ => false
def gdAll : Nat → Bool | 0 => true | n + 1 => fGd n && gdAll n
theorem gdAll_at : ∀ {n k : Nat}, gdAll n = true → k < n → fGd k = true
  | n + 1, k, h, hk => by
    have h1 : (fGd n && gdAll n) = true := h
    rw [Bool.and_eq_true] at h1
    rcases Nat.lt_or_ge k n with q | q
    · exact gdAll_at h1.2 q
    · rw [show k = n by omega]; exact h1.1
theorem gdAll_6001 : gdAll 6001 = true := by decide +kernel
theorem gd_at {k : Nat} (hk : k ≤ 6000) : ∃ c q, FP.Core.decode FP.Core.b64 (FP.i2d (nI k)).toNat = .fin false c q ∧ ((k = 0 ∧ c = 0) ∨ ∃ a : Nat, q = -(a : Int) ∧ 40 ≤ a ∧ a ≤ 52 ∧ c = k * 2 ^ a ∧ 4503599627370496 ≤ c ∧ c < 9007199254740992) := by
  have h1 := gdAll_at gdAll_6001 (show k < 6001 by omega)
  unfold fGd at h1
  generalize FP.Core.decode FP.Core.b64 (FP.i2d (nI k)).toNat = x at h1 ⊢
  cases x with
  | nan => exact absurd h1 (by simp)
  | inf s => exact absurd h1 (by simp)
  | fin s c q =>
    have h2 := of_decide_eq_true h1
    obtain ⟨rfl, h3⟩ := h2
    refine ⟨c, q, rfl, ?_⟩
    rcases h3 with h3 | ⟨h4, h5, h6, h7, h8, h9⟩
    · exact Or.inl h3
    · exact Or.inr ⟨(-q).toNat, h4, h5, h6, h7, h8, h9⟩
theorem dec_enc {c : Nat} {q : Int} (h1 : 4503599627370496 ≤ c) (h2 : c < 9007199254740992) (h3 : -1074 ≤ q) (h4 : q ≤ 971) : FP.Core.decode FP.Core.b64 (UInt64.ofNat (FP.Core.encode FP.Core.b64 (.fin false c q))).toNat = .fin false c q := by
  have ht : FP.Core.b64.tails = 4503599627370496 := by decide
  have hx : FP.Core.b64.exps = 2048 := by decide
  have hm : FP.Core.b64.qmin = -1074 := by decide
  obtain ⟨T, rfl⟩ : ∃ T, c = 4503599627370496 + T := ⟨c - 4503599627370496, by omega⟩
  obtain ⟨E, rfl⟩ : ∃ E : Nat, q = (E : Int) - 1074 := ⟨(q + 1074).toNat, by omega⟩
  have he : FP.Core.encode FP.Core.b64 (.fin false (4503599627370496 + T) ((E : Int) - 1074)) = (E + 1) * 4503599627370496 + T := by
    show (if 4503599627370496 + T < FP.Core.b64.tails then FP.Core.assemble FP.Core.b64 false 0 (4503599627370496 + T) else FP.Core.assemble FP.Core.b64 false (((E : Int) - 1074 - FP.Core.b64.qmin).toNat + 1) (4503599627370496 + T - FP.Core.b64.tails)) = _
    rw [if_neg (by rw [ht]; omega)]
    unfold FP.Core.assemble
    rw [ht, hx, hm]
    show (0 * 2048 + (((E : Int) - 1074 - -1074).toNat + 1)) * 4503599627370496 + (4503599627370496 + T - 4503599627370496) = _
    rw [show ((E : Int) - 1074 - -1074).toNat = E by omega]
    omega
  have hl : (E + 1) * 4503599627370496 + T < 2 ^ 64 := by
    have hp : (2 : Nat) ^ 64 = 18446744073709551616 := by decide
    omega
  rw [he, UInt64.toNat_ofNat', Nat.mod_eq_of_lt hl]
  unfold FP.Core.decode FP.Core.fieldE FP.Core.fieldT FP.Core.fieldS
  rw [ht, hx, hm]
  have a1 : ((E + 1) * 4503599627370496 + T) / 4503599627370496 = E + 1 := by omega
  have a2 : ((E + 1) * 4503599627370496 + T) % 4503599627370496 = T := by omega
  have a3 : (E + 1) % 2048 = E + 1 := by omega
  have a4 : (E + 1) / 2048 = 0 := by omega
  rw [a1, a2, a3, a4, if_neg (by omega), if_neg (by omega)]
  show FP.Core.Datum.fin (0 % 2 == 1) (4503599627370496 + T) (-1074 + (((E + 1 : Nat) : Int) - 1)) = _
  rw [show -1074 + (((E + 1 : Nat) : Int) - 1) = (E : Int) - 1074 by omega]
  rfl
theorem log_52 {c : Nat} (h1 : 4503599627370496 ≤ c) (h2 : c < 9007199254740992) : c.log2 = 52 := by
  have a1 : 2 ^ c.log2 ≤ c := Nat.log2_self_le (by omega)
  have a2 : c < 2 ^ (c.log2 + 1) := Nat.lt_log2_self
  have p1 : (2 : Nat) ^ 52 = 4503599627370496 := by decide
  have p2 : (2 : Nat) ^ 53 = 9007199254740992 := by decide
  generalize c.log2 = k at a1 a2 ⊢
  rcases Nat.lt_trichotomy k 52 with q | q | q
  · have h3 : 2 ^ (k + 1) ≤ 2 ^ 52 := Nat.pow_le_pow_right (by decide) q
    rw [p1] at h3
    omega
  · exact q
  · have h3 : 2 ^ 53 ≤ 2 ^ k := Nat.pow_le_pow_right (by decide) q
    rw [p2] at h3
    omega
theorem lead_n {c d : Nat} (hc1 : 4503599627370496 ≤ c) (hc2 : c < 9007199254740992) (hd1 : 4503599627370496 ≤ d) (hd2 : d < 9007199254740992) : FP.Core.leading c d = if d ≤ c then 0 else -1 := by
  unfold FP.Core.leading
  rw [log_52 hc1 hc2, log_52 hd1 hd2]
  simp
theorem near_b {A D lo hi : Nat} (hD : 0 < D) (h1 : lo * D ≤ A) (h2 : A ≤ hi * D) : lo ≤ FP.Core.nearest A D ∧ FP.Core.nearest A D ≤ hi := by
  have g1 : lo ≤ A / D := (Nat.le_div_iff_mul_le hD).mpr h1
  constructor
  · unfold FP.Core.nearest
    split
    · exact g1
    · split <;> omega
  · by_cases heq : A = hi * D
    · subst heq
      unfold FP.Core.nearest
      rw [Nat.mul_mod_left, Nat.mul_div_cancel _ hD, if_pos (by omega)]
      exact Nat.le_refl _
    · have g2 : A / D < hi := (Nat.div_lt_iff_lt_mul hD).mpr (by omega)
      unfold FP.Core.nearest
      split
      · omega
      · split <;> omega
theorem quo_n {c d m n B a b : Nat} (hc1 : 4503599627370496 ≤ c) (hc2 : c < 9007199254740992) (hd1 : 4503599627370496 ≤ d) (hd2 : d < 9007199254740992) (ha1 : 40 ≤ a) (ha2 : a ≤ 52) (hb1 : 40 ≤ b) (hb2 : b ≤ 52) (hcm : c = m * 2 ^ a) (hdn : d = n * 2 ^ b) (hmn : m ≤ B * n) : ∃ M v : Nat, FP.Core.roundRatio FP.Core.b64 false c d (-(a : Int) - -(b : Int)) = .fin false M (-(v : Int)) ∧ 4503599627370496 ≤ M ∧ M < 9007199254740992 ∧ v ≤ 66 ∧ 39 ≤ v ∧ M ≤ B * 2 ^ v := by
  have ht : FP.Core.b64.tails = 4503599627370496 := by decide
  have hm : FP.Core.b64.qmin = -1074 := by decide
  have hx : FP.Core.b64.qmax = 971 := by decide
  have h53 : 2 ^ FP.Core.b64.p = 9007199254740992 := by decide
  have hp : FP.Core.b64.p = 53 := rfl
  obtain ⟨j, hj, hlead⟩ : ∃ j : Nat, ((j = 0 ∧ d ≤ c) ∨ (j = 1 ∧ c < d)) ∧ FP.Core.leading c d = -(j : Int) := by
    rw [lead_n hc1 hc2 hd1 hd2]
    by_cases q : d ≤ c
    · exact ⟨0, Or.inl ⟨rfl, q⟩, by rw [if_pos q]; rfl⟩
    · exact ⟨1, Or.inr ⟨rfl, by omega⟩, by rw [if_neg q]; rfl⟩
  obtain ⟨u, hu⟩ : ∃ u : Nat, u + b = 52 + j + a := ⟨52 + j + a - b, by omega⟩
  have hQ : FP.Core.quantum FP.Core.b64 c d (-(a : Int) - -(b : Int)) = -(u : Int) := by
    unfold FP.Core.quantum
    rw [hlead, hm, hp]
    omega
  have hN : FP.Core.unitsNum c (-(a : Int) - -(b : Int)) (-(u : Int)) = c * 2 ^ (52 + j) := by
    unfold FP.Core.unitsNum
    rw [show ((-(a : Int) - -(b : Int)) - -(u : Int)).toNat = 52 + j by omega]
  have hD : FP.Core.unitsDen d (-(a : Int) - -(b : Int)) (-(u : Int)) = d := by
    unfold FP.Core.unitsDen
    rw [show (-(u : Int) - (-(a : Int) - -(b : Int))).toNat = 0 by omega]
    exact Nat.mul_one d
  have hr : FP.Core.roundRatio FP.Core.b64 false c d (-(a : Int) - -(b : Int)) = FP.Core.settle FP.Core.b64 false (FP.Core.nearest (c * 2 ^ (52 + j)) d) (-(u : Int)) := by
    unfold FP.Core.roundRatio FP.Core.roundAt
    rw [if_neg (by omega), hQ, hN, hD]
  have hb : 4503599627370496 * d ≤ c * 2 ^ (52 + j) ∧ c * 2 ^ (52 + j) ≤ 9007199254740992 * d := by
    rcases hj with ⟨rfl, q⟩ | ⟨rfl, q⟩
    · have e : (2 : Nat) ^ (52 + 0) = 4503599627370496 := by decide
      rw [e]; omega
    · have e : (2 : Nat) ^ (52 + 1) = 9007199254740992 := by decide
      rw [e]; omega
  have hB : c * 2 ^ (52 + j) ≤ B * 2 ^ u * d := by
    have e1 : m * 2 ^ a * 2 ^ (52 + j) = m * 2 ^ (u + b) := by rw [Nat.mul_assoc, ← Nat.pow_add, show a + (52 + j) = u + b by omega]
    have e2 : B * 2 ^ u * (n * 2 ^ b) = B * n * 2 ^ (u + b) := by rw [Nat.pow_add]; ac_rfl
    rw [hcm, hdn, e1, e2]
    exact Nat.mul_le_mul_right _ hmn
  obtain ⟨hM1, hM2⟩ := near_b (show 0 < d by omega) hb.1 hb.2
  have hM3 := (near_b (lo := 0) (show 0 < d by omega) (by omega) hB).2
  rw [hr]
  generalize FP.Core.nearest (c * 2 ^ (52 + j)) d = M at hM1 hM2 hM3
  unfold FP.Core.settle FP.Core.bound
  rw [h53, ht, hx]
  by_cases q : M < 9007199254740992
  · rw [if_pos q, if_pos (show -(u : Int) ≤ 971 by omega)]
    exact ⟨M, u, rfl, hM1, q, by omega, by omega, hM3⟩
  · obtain ⟨w, rfl⟩ : ∃ w, u = w + 1 := ⟨u - 1, by omega⟩
    rw [if_neg q, if_pos (show -((w + 1 : Nat) : Int) + 1 ≤ 971 by omega)]
    refine ⟨4503599627370496, w, ?_, Nat.le_refl _, by decide, by omega, by omega, ?_⟩
    · rw [show -((w + 1 : Nat) : Int) + 1 = -(w : Int) by omega]
    · rw [Nat.pow_succ, ← Nat.mul_assoc] at hM3
      generalize B * 2 ^ w = K at hM3 ⊢
      omega
theorem ord_le {M C v w B : Nat} (h1 : M ≤ B * 2 ^ v) (h2 : C = B * 2 ^ w) : FP.Core.order (.fin false M (-(v : Int))) (.fin false C (-(w : Int))) ≠ some .gt := by
  have key : FP.Core.inUnits M (-(v : Int)) (min (-(v : Int)) (-(w : Int))) ≤ FP.Core.inUnits C (-(w : Int)) (min (-(v : Int)) (-(w : Int))) := by
    unfold FP.Core.inUnits
    rcases Nat.le_total v w with q | q
    · rw [show (-(v : Int) - min (-(v : Int)) (-(w : Int))).toNat = w - v by omega, show (-(w : Int) - min (-(v : Int)) (-(w : Int))).toNat = 0 by omega, h2, Nat.pow_zero, Nat.mul_one]
      have h3 : M * 2 ^ (w - v) ≤ B * 2 ^ v * 2 ^ (w - v) := Nat.mul_le_mul_right _ h1
      rw [Nat.mul_assoc B, ← Nat.pow_add, show v + (w - v) = w by omega] at h3
      exact h3
    · rw [show (-(v : Int) - min (-(v : Int)) (-(w : Int))).toNat = 0 by omega, show (-(w : Int) - min (-(v : Int)) (-(w : Int))).toNat = v - w by omega, h2, Nat.pow_zero, Nat.mul_one, Nat.mul_assoc, ← Nat.pow_add, show w + (v - w) = v by omega]
      exact h1
  intro h
  have h4 : some (compare (FP.Core.signed false (FP.Core.inUnits M (-(v : Int)) (min (-(v : Int)) (-(w : Int))))) (FP.Core.signed false (FP.Core.inUnits C (-(w : Int)) (min (-(v : Int)) (-(w : Int)))))) = some Ordering.gt := h
  generalize FP.Core.inUnits M (-(v : Int)) (min (-(v : Int)) (-(w : Int))) = x at key h4
  generalize FP.Core.inUnits C (-(w : Int)) (min (-(v : Int)) (-(w : Int))) = y at key h4
  have h5 : (if (x : Int) < (y : Int) then Ordering.lt else if (x : Int) = (y : Int) then Ordering.eq else Ordering.gt) = Ordering.gt := Option.some.inj h4
  rcases Nat.lt_or_ge x y with q | q
  · rw [if_pos (show (x : Int) < (y : Int) by omega)] at h5
    exact absurd h5 (by decide)
  · rw [if_neg (show ¬ (x : Int) < (y : Int) by omega), if_pos (show (x : Int) = (y : Int) by omega)] at h5
    exact absurd h5 (by decide)
theorem mn_dec {m n B : Nat} (hB : B ≤ 3) (hn : n ≤ 2000) (hmn : m ≤ B * n) : ∃ M v : Nat, FP.Core.decode FP.Core.b64 (mnD m n).toNat = .fin false M (-(v : Int)) ∧ M ≤ B * 2 ^ v := by
  have h0 : FP.Core.decode FP.Core.b64 (0 : UInt64).toNat = .fin false 0 (-((1074 : Nat) : Int)) := by decide +kernel
  have h00 : FP.Core.decode FP.Core.b64 (UInt64.ofNat (FP.Core.encode FP.Core.b64 (.fin false 0 FP.Core.b64.qmin))).toNat = .fin false 0 (-((1074 : Nat) : Int)) := by decide +kernel
  by_cases z : n = 0
  · refine ⟨0, 1074, ?_, Nat.zero_le _⟩
    unfold mnD
    rw [if_pos z]
    exact h0
  · unfold mnD
    rw [if_neg z]
    have hm6 : m ≤ 6000 := Nat.le_trans hmn (Nat.le_trans (Nat.mul_le_mul hB hn) (by decide))
    obtain ⟨c, q, e1, g1⟩ := gd_at hm6
    obtain ⟨d, r, e2, g2⟩ := gd_at (show n ≤ 6000 by omega)
    obtain ⟨b, rfl, b1, b2, hdn, d1, d2⟩ := g2.resolve_left (fun y => z y.1)
    have hq : FP.Core.quotient FP.Core.b64 (.fin false c q) (.fin false d (-(b : Int))) = FP.Core.roundRatio FP.Core.b64 false c d (q - -(b : Int)) := if_neg (by omega)
    have hd : FP.ddiv (FP.i2d (nI m)) (FP.i2d (nI n)) = UInt64.ofNat (FP.Core.encode FP.Core.b64 (FP.Core.roundRatio FP.Core.b64 false c d (q - -(b : Int)))) := by
      rw [← hq, ← e1, ← e2]
      rfl
    rw [hd]
    rcases g1 with ⟨m0, c0⟩ | ⟨a, rfl, a1, a2, hcm, c1, c2⟩
    · refine ⟨0, 1074, ?_, Nat.zero_le _⟩
      have h1 : FP.Core.roundRatio FP.Core.b64 false c d (q - -(b : Int)) = .fin false 0 FP.Core.b64.qmin := if_pos c0
      rw [h1]
      exact h00
    · obtain ⟨M, v, hr, M1, M2, v1, v2, hM⟩ := quo_n c1 c2 d1 d2 a1 a2 b1 b2 hcm hdn hmn
      rw [hr, dec_enc M1 M2 (by omega) (by omega)]
      exact ⟨M, v, rfl, hM⟩
theorem rhs_d {b : Nat} (hb : b ≤ 2) : ∃ w : Nat, FP.Core.decode FP.Core.b64 (FP.dadd (FP.i2d (nI b)) FP.dconst1).toNat = .fin false ((b + 1) * 2 ^ w) (-(w : Int)) := by
  rcases (show b = 0 ∨ b = 1 ∨ b = 2 by omega) with rfl | rfl | rfl
  · exact ⟨52, by decide +kernel⟩
  · exact ⟨51, by decide +kernel⟩
  · exact ⟨51, by decide +kernel⟩
theorem rhs_ok {b : Nat} (hb : b ≤ 2) : vf_n64 (FP.dadd (FP.i2d (nI b)) FP.dconst1) := by
  have h : ∀ b, b < 3 → FP.dadd (FP.i2d (nI b)) FP.dconst1 &&& 0x7fffffffffffffff ≤ 0x7ff0000000000000 := by decide +kernel
  exact h b (by omega)
theorem mean_le {m n b : Nat} (hb : b ≤ 2) (hn : n ≤ 2000) (hmn : m ≤ (b + 1) * n) : (Op.cmpValue (FP.dcmp (mnD m n) (FP.dadd (FP.i2d (nI b)) FP.dconst1)) .l).toInt ≤ 0 := by
  obtain ⟨M, v, h1, h2⟩ := mn_dec (B := b + 1) (by omega) hn hmn
  obtain ⟨w, h3⟩ := rhs_d hb
  have h4 : FP.dcmp (mnD m n) (FP.dadd (FP.i2d (nI b)) FP.dconst1) ≠ some .gt := by
    show FP.Core.order (FP.Core.decode FP.Core.b64 (mnD m n).toNat) (FP.Core.decode FP.Core.b64 (FP.dadd (FP.i2d (nI b)) FP.dconst1).toNat) ≠ some .gt
    rw [h1, h3]
    exact ord_le h2 rfl
  generalize FP.dcmp (mnD m n) (FP.dadd (FP.i2d (nI b)) FP.dconst1) = o at h4 ⊢
  cases o with
  | none => decide
  | some o => cases o with
    | lt => decide
    | eq => decide
    | gt => exact absurd rfl h4
theorem sc_le {es : List Ent} {B : Nat} (h : ∀ i, i < es.length → eC es i ≤ B) : ∀ i, i ≤ es.length → scT es i ≤ B * i
  | 0, _ => Nat.le_refl _
  | i + 1, hi => by
    have h1 := sc_le h i (by omega)
    have h2 := h i (by omega)
    show scT es i + eC es i ≤ B * (i + 1)
    rw [Nat.mul_succ]
    omega
theorem mean_ok {es : List Ent} {st : Nat → Nat} {b : Nat} (hI : stI es st) (hb : b ≤ 2) (h : ∀ i, i < es.length → eC es i ≤ b + 1) : (Op.cmpValue (FP.dcmp (mnD (suT st 7) es.length) (FP.dadd (FP.i2d (nI b)) FP.dconst1)) .l).toInt ≤ 0 := by
  refine mean_le hb hI.2.2.2.2 ?_
  have h1 := sc_su hI 7 (Nat.le_refl _)
  rw [hI.2.2.2.1] at h1
  rw [← h1]
  exact sc_le h es.length (Nat.le_refl _)

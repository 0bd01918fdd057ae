/-! an entry as a formula -/
def apL (pb : Nat → Nat) : Nat → List Nat → (Nat → Nat)
  | _, [] => pb
  | n, b :: L => apL (va_up pb n b) (n + 1) L
theorem apL_app (pb : Nat → Nat) : ∀ (n : Nat) (L M : List Nat), apL pb n (L ++ M) = apL (apL pb n L) (n + L.length) M
  | _, [], _ => rfl
  | n, b :: L, M => by
    show apL (va_up pb n b) (n + 1) (L ++ M) = apL (apL (va_up pb n b) (n + 1) L) (n + (L.length + 1)) M
    rw [apL_app (va_up pb n b) (n + 1) L M, show n + 1 + L.length = n + (L.length + 1) by omega]
theorem zN_upd (pb : Nat → Nat) (n b : Nat) : upd (zN pb) n (nI b) = zN (va_up pb n b) := by
  funext j
  unfold upd zN va_up
  split <;> rfl
def nmL (v : Nat) : List Nat := if 10 ≤ v then [48 + v / 10, 48 + v % 10] else [48 + v % 10]
def i2n (x : Int32) : Nat := x.toNatClampNeg
def isTwo (es : List Ent) (i : Nat) : Bool := decide (4 ≤ (eO es i).toInt)
def fmE (es : List Ent) : Nat → Nat → List Nat
  | 0, _ => []
  | n + 1, i =>
    if eO es i = -1 then [120] else if eO es i = -2 then nmL (i2n (eA es i))
    else if isTwo es i = true then
      (if isTwo es (i2n (eA es i)) = true then 40 :: fmE es n (i2n (eA es i)) ++ [41] else fmE es n (i2n (eA es i))) ++ sgn (i2n (eO es i)) :: (if isTwo es (i2n (eB es i)) = true then 40 :: fmE es n (i2n (eB es i)) ++ [41] else fmE es n (i2n (eB es i)))
    else sgn (i2n (eO es i)) :: (if isTwo es (i2n (eA es i)) = true then 40 :: fmE es n (i2n (eA es i)) ++ [41] else fmE es n (i2n (eA es i)))
def agE (es : List Ent) (n x : Nat) : List Nat := if isTwo es x = true then 40 :: fmE es n x ++ [41] else fmE es n x
theorem i2n_nI {k : Nat} (h : k < 2 ^ 31) : i2n (nI k) = k := nI_clamp h
theorem nI_m2 {i : Nat} (h : i < 2 ^ 31) : ¬ nI i = -2 := by
  intro q
  have h1 := nI_toInt h
  rw [q] at h1
  have h2 : (-2 : Int32).toInt = -2 := by decide
  omega
theorem two_t {es : List Ent} {i o : Nat} (h : eO es i = nI o) (h1 : 4 ≤ o) (h2 : o < 10) : isTwo es i = true := decide_eq_true (by rw [h, nI_toInt (by omega)]; omega)
theorem two_f {es : List Ent} {i : Nat} (h : (eO es i).toInt < 4) : isTwo es i = false := decide_eq_false (by omega)
theorem fm_x {es : List Ent} {n i : Nat} (h : eO es i = -1) : fmE es (n + 1) i = [120] := if_pos h
theorem fm_c {es : List Ent} {n i v : Nat} (h : eO es i = -2) (ha : eA es i = nI v) (hv : v < 16) : fmE es (n + 1) i = nmL v := by
  have h1 : ¬ eO es i = -1 := by rw [h]; decide
  unfold fmE
  rw [if_neg h1, if_pos h, ha, i2n_nI (by omega)]
theorem fm_1 {es : List Ent} {n i o a : Nat} (ho : o < 4) (h : eO es i = nI o) (ha : eA es i = nI a) (hl : a < 2000) : fmE es (n + 1) i = sgn o :: agE es n a := by
  have h3 : ¬ isTwo es i = true := by rw [two_f (by rw [h, nI_toInt (by omega)]; omega)]; decide
  have h1 : ¬ eO es i = -1 := by rw [h]; exact nI_m1 (by omega)
  have h2 : ¬ eO es i = -2 := by rw [h]; exact nI_m2 (by omega)
  unfold fmE
  rw [if_neg h1, if_neg h2, if_neg h3, ha, h, i2n_nI (by omega), i2n_nI (by omega)]
  rfl
theorem fm_2 {es : List Ent} {n i o a b : Nat} (ho : 4 ≤ o) (ho2 : o < 10) (h : eO es i = nI o) (ha : eA es i = nI a) (hb : eB es i = nI b) (hl : a < 2000) (hl2 : b < 2000) : fmE es (n + 1) i = agE es n a ++ sgn o :: agE es n b := by
  have h3 : isTwo es i = true := two_t h ho ho2
  have h1 : ¬ eO es i = -1 := by rw [h]; exact nI_m1 (by omega)
  have h2 : ¬ eO es i = -2 := by rw [h]; exact nI_m2 (by omega)
  unfold fmE
  rw [if_neg h1, if_neg h2, if_pos h3, ha, hb, h, i2n_nI (by omega), i2n_nI (by omega), i2n_nI (by omega)]
  rfl
theorem nm_len {v : Nat} : (nmL v).length ≤ 2 := by unfold nmL; split <;> simp
theorem fm_len {es : List Ent} (hw : wfE es) (hl : es.length ≤ 2000) : ∀ (n i : Nat), i < es.length → eC es i < n → (fmE es n i).length + (if isTwo es i = true then 2 else 0) ≤ 5 * eC es i + 2
  | 0, _, _, h => absurd h (Nat.not_lt_zero _)
  | n + 1, i, hi, h => by
    obtain ⟨hc, hk⟩ := hw i hi
    have ag : ∀ a, a < es.length → eC es a < n → (agE es n a).length ≤ 5 * eC es a + 2 := by
      intro a ha hca
      have := fm_len hw hl n a ha hca
      unfold agE
      by_cases q : isTwo es a = true
      · rw [if_pos q] at this ⊢; simp; omega
      · rw [if_neg q] at this ⊢; omega
    rcases hk with ⟨h1, h2, h3⟩ | ⟨h1, ⟨v, hv, h2⟩, h3⟩ | ⟨o, a, ho, h1, ha, h2, h3, h4⟩ | ⟨o, a, b, ho, ho2, h1, ha, h2, hb, h3, h4⟩
    · rw [fm_x h1, two_f (by rw [h1]; decide)]; simp
    · rw [fm_c h1 h2 hv, two_f (by rw [h1]; decide)]
      have := nm_len (v := v)
      simp; omega
    · have := ag a (by omega) (by omega)
      rw [fm_1 ho h1 h2 (by omega), two_f (by rw [h1, nI_toInt (by omega)]; omega)]
      simp; omega
    · have a1 := ag a (by omega) (by omega)
      have a2 := ag b (by omega) (by omega)
      rw [fm_2 ho ho2 h1 h2 h3 (by omega) (by omega), two_t h1 ho ho2]
      simp; omega
theorem fm_len30 {es : List Ent} (hw : wfE es) (hl : es.length ≤ 2000) {n i : Nat} (hi : i < es.length) (h : eC es i < n) : (fmE es n i).length ≤ 30 := by
  have hL := fm_len hw hl n i hi h
  obtain ⟨hc, hk⟩ := hw i hi
  rcases hk with ⟨h1, h2, h3⟩ | ⟨h1, ⟨v, hv, h2⟩, h3⟩ | ⟨o, a, ho, h1, ha, h2, h3, h4⟩ | ⟨o, a, b, ho, ho2, h1, ha, h2, hb, h3, h4⟩
  · obtain ⟨k, rfl⟩ : ∃ k, n = k + 1 := ⟨n - 1, by omega⟩
    rw [fm_x h1]; simp
  · obtain ⟨k, rfl⟩ : ∃ k, n = k + 1 := ⟨n - 1, by omega⟩
    rw [fm_c h1 h2 hv]
    have := nm_len (v := v)
    omega
  · obtain ⟨k, rfl⟩ : ∃ k, n = k + 1 := ⟨n - 1, by omega⟩
    have h5 := fm_len hw hl k a (by omega) (by omega)
    rw [fm_1 ho h1 h2 (by omega)]
    unfold agE
    by_cases q : isTwo es a = true
    · rw [if_pos q] at h5 ⊢; simp; omega
    · rw [if_neg q] at h5 ⊢; simp; omega
  · rw [two_t h1 ho ho2, if_pos rfl] at hL
    omega
/-- more levels than the cost change nothing -/
theorem fm_more {es : List Ent} (hw : wfE es) (hl : es.length ≤ 2000) : ∀ (n m i : Nat), i < es.length → eC es i < n → n ≤ m → fmE es m i = fmE es n i
  | 0, _, _, _, h, _ => absurd h (Nat.not_lt_zero _)
  | n + 1, m, i, hi, h, hm => by
    obtain ⟨k, rfl⟩ : ∃ k, m = k + 1 := ⟨m - 1, by omega⟩
    obtain ⟨hc, hk⟩ := hw i hi
    have ag : ∀ a, a < es.length → eC es a < n → agE es k a = agE es n a := by
      intro a ha hca
      unfold agE
      rw [fm_more hw hl n k a ha hca (by omega)]
    rcases hk with ⟨h1, h2, h3⟩ | ⟨h1, ⟨v, hv, h2⟩, h3⟩ | ⟨o, a, ho, h1, ha, h2, h3, h4⟩ | ⟨o, a, b, ho, ho2, h1, ha, h2, hb, h3, h4⟩
    · rw [fm_x h1, fm_x h1]
    · rw [fm_c h1 h2 hv, fm_c h1 h2 hv]
    · rw [fm_1 ho h1 h2 (by omega), fm_1 ho h1 h2 (by omega), ag a (by omega) (by omega)]
    · rw [fm_2 ho ho2 h1 h2 h3 (by omega) (by omega), fm_2 ho ho2 h1 h2 h3 (by omega) (by omega), ag a (by omega) (by omega), ag b (by omega) (by omega)]

/-! numbers and tests of the reference -/
def inB (v lo hi : Int32) : Bool := decide (lo.toInt ≤ v.toInt ∧ v.toInt ≤ hi.toInt)
theorem in_t {v lo hi : Int32} (h1 : lo.toInt ≤ v.toInt) (h2 : v.toInt ≤ hi.toInt) : inB v lo hi = true := decide_eq_true ⟨h1, h2⟩
theorem in_f {v lo hi : Int32} (h : v.toInt < lo.toInt ∨ hi.toInt < v.toInt) : inB v lo hi = false := decide_eq_false (fun q => by omega)
theorem in_0 {v lo hi : Int32} (h : (inB v lo hi).toNat = 0) : v.toInt < lo.toInt ∨ hi.toInt < v.toInt := by
  by_cases q : lo.toInt ≤ v.toInt ∧ v.toInt ≤ hi.toInt
  · rw [in_t q.1 q.2] at h; exact absurd h (by decide)
  · omega
theorem in_1 {v lo hi : Int32} (h : ¬ (inB v lo hi).toNat = 0) : lo.toInt ≤ v.toInt ∧ v.toInt ≤ hi.toInt := by
  by_cases q : lo.toInt ≤ v.toInt ∧ v.toInt ≤ hi.toInt
  · exact q
  · exact absurd (by rw [in_f (by omega)]; rfl) h
theorem n1_t {b : Bool} (h : b = true) : nI 1 = nI b.toNat := by rw [h]; rfl
theorem n0_f {b : Bool} (h : b = false) : nI 0 = nI b.toNat := by rw [h]; rfl
/-- a row of switches as an array holds it -/
def zB (b : Nat → Bool) : Nat → Int32 := fun i => nI (b i).toNat
theorem nar_b (b : Bool) : vp_nar .boolean (nI b.toNat) = nI b.toNat := by cases b <;> rfl
theorem zB_upd (b : Nat → Bool) (i : Nat) (v : Bool) : upd (zB b) i (vp_nar .boolean (nI v.toNat)) = zB (va_up b i v) := by
  funext j
  unfold upd zB va_up
  rw [nar_b]
  split <;> rfl
def ctB (b : Nat → Bool) : Nat → Nat | 0 => 0 | i + 1 => ctB b i + (b i).toNat
theorem ctB_le (b : Nat → Bool) : ∀ n, ctB b n ≤ n
  | 0 => Nat.le_refl 0
  | n + 1 => by
    have h1 := ctB_le b n
    have h2 := bt_lt (b n)
    unfold ctB
    omega
def rek (op v w : Nat) : Nat := match op with
  | 0 => 15 - v | 1 => 16 - v | 2 => 2 * v | 3 => v / 2 | 4 => v &&& w | 5 => v ||| w | 6 => v ^^^ w | 7 => v + w | 8 => 16 + v - w | _ => v * w
theorem rek_lt {op v w : Nat} (hv : v < 16) (hw : w < 16) : rek op v w < 256 := by
  unfold rek
  split
  all_goals first | omega | exact Nat.lt_trans (Nat.and_lt_two_pow (n := 4) _ hw) (by decide) | exact Nat.lt_trans (or_lt (n := 4) hv hw) (by decide) | exact Nat.lt_trans (xor_lt (n := 4) hv hw) (by decide) | exact Nat.lt_of_le_of_lt (Nat.mul_le_mul (show v ≤ 15 by omega) (show w ≤ 15 by omega)) (by decide)
def mdN (op : Nat) (f g : Int64) : Nat → Int64 | 0 => 0 | i + 1 => mdN op f g i ||| j_shl (Int32.toInt64 (nI (rek op (nib f i) (nib g i) % 16))) (nI (4 * i))
theorem all_1 : ∀ i, i < 16 → 65535 / 2 ^ i % 2 = 1 := by decide
noncomputable def ifB (f : Int64) (w a b : Nat) : Bool := match w with
  | 0 => deB (nib f (a ^^^ b) = nib f a ^^^ nib f b)
  | 1 => deB (a ≤ b ∨ nib f b ≤ nib f a)
  | 2 => deB (nib f (nib f a) = nib f a)
  | _ => deB (∀ k, k < 4 → ¬ (a ^^^ b) % (2 * 2 ^ k) = 0 ∨ nib f a / 2 ^ k % 2 = nib f b / 2 ^ k % 2)
theorem ifB_3 {f : Int64} {w a b : Nat} (h : 3 ≤ w) : ifB f w a b = deB (∀ k, k < 4 → ¬ (a ^^^ b) % (2 * 2 ^ k) = 0 ∨ nib f a / 2 ^ k % 2 = nib f b / 2 ^ k % 2) := by
  match w, h with
  | n + 3, _ => rfl
def chF (f : Int64) : Int64 := f ^^^ j_ushr f (nI 17) ^^^ j_ushr f (nI 34) ^^^ j_ushr f (nI 51)
def chn (f : Int64) : Nat := uN (chF f) % 1024
theorem chn_lt (f : Int64) : chn f < 1024 := Nat.mod_lt _ (by decide)
theorem chn_ok (z : Int64) : Int64.toInt32 (z &&& 1023) = nI (uN z % 1024) := by
  apply Int32.toBitVec_inj.mp
  apply BitVec.eq_of_toNat_eq
  rw [l2i_tn, pk_tn (by omega)]
  have h : uN (z &&& 1023) = uN z % 1024 := by
    show (z.toUInt64 &&& Int64.toUInt64 1023).toNat = _
    rw [UInt64.toNat_and]
    exact Nat.and_two_pow_sub_one_eq_mod _ 10
  rw [h]
  omega
def ulN (f g : Int64) : Nat → Nat | 0 => 0 | i + 1 => ulN f g i ||| (if nib f i = nib g i then 0 else 2 ^ i)
theorem ulN_1 {f g : Int64} {i : Nat} (h : nib f i = nib g i) : ulN f g (i + 1) = ulN f g i ||| 0 := congrArg (fun z => ulN f g i ||| z) (if_pos h)
theorem ulN_0 {f g : Int64} {i : Nat} (h : ¬ nib f i = nib g i) : ulN f g (i + 1) = ulN f g i ||| 2 ^ i := congrArg (fun z => ulN f g i ||| z) (if_neg h)
theorem ulN_lt (f g : Int64) : ∀ i, i ≤ 16 → ulN f g i < 2 ^ 16
  | 0, _ => by show 0 < 2 ^ 16; decide
  | i + 1, h => by
    unfold ulN
    split
    · exact or_lt (ulN_lt f g i (by omega)) (by decide)
    · exact or_lt (ulN_lt f g i (by omega)) (Nat.pow_lt_pow_right (by decide) (by omega))

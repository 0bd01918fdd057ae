/-! numbers in ints -/
theorem niand (a b : Nat) : nI a &&& nI b = nI (a &&& b) := by
  apply Int32.toBitVec_inj.1
  show BitVec.ofNat 32 a &&& BitVec.ofNat 32 b = BitVec.ofNat 32 (a &&& b)
  apply BitVec.eq_of_getLsbD_eq
  intro i hi
  simp [hi]
theorem nixor (a b : Nat) : nI a ^^^ nI b = nI (a ^^^ b) := by
  apply Int32.toBitVec_inj.1
  show BitVec.ofNat 32 a ^^^ BitVec.ofNat 32 b = BitVec.ofNat 32 (a ^^^ b)
  apply BitVec.eq_of_getLsbD_eq
  intro i hi
  simp [hi]
theorem nior (a b : Nat) : nI a ||| nI b = nI (a ||| b) := by
  apply Int32.toBitVec_inj.1
  show BitVec.ofNat 32 a ||| BitVec.ofNat 32 b = BitVec.ofNat 32 (a ||| b)
  apply BitVec.eq_of_getLsbD_eq
  intro i hi
  simp [hi]
theorem ni_and1 (a : Nat) : nI a &&& nI 1 = nI (a % 2) := by rw [niand, Nat.and_one_is_mod]
theorem ni_sl : ∀ k, k < 32 → ((nI k &&& 31).toBitVec.smod 32).toNat = k := by decide +kernel
theorem ni_su : ∀ k, k < 32 → (((nI k).toUInt32 &&& Int32.toUInt32 31).toBitVec % 32).toNat = k := by decide +kernel
theorem ni_shl {a k : Nat} (hk : k < 32) (h : a * 2 ^ k < 2 ^ 32) : i_shl (nI a) (nI k) = nI (a * 2 ^ k) := pk_shlN _ k (ni_sl k hk) h
theorem ni_shl1 {k : Nat} (hk : k < 32) : i_shl (nI 1) (nI k) = nI (2 ^ k) := by
  have h := ni_shl (a := 1) hk (by rw [Nat.one_mul]; exact Nat.pow_lt_pow_right (by decide) hk)
  rwa [Nat.one_mul] at h
theorem ni_ushr {a k : Nat} (h : a < 2 ^ 32) (hk : k < 32) : i_ushr (nI a) (nI k) = nI (a / 2 ^ k) := pk_ushrN h _ k (ni_su k hk)
theorem ni_shr {a k : Nat} (h : a < 2 ^ 31) (hk : k < 32) : i_shr (nI a) (nI k) = nI (a / 2 ^ k) := pk_shrN h _ k (ni_sl k hk)
theorem or_lt {a b n : Nat} (ha : a < 2 ^ n) (hb : b < 2 ^ n) : a ||| b < 2 ^ n := Nat.or_lt_two_pow ha hb
theorem xor_lt {a b n : Nat} (ha : a < 2 ^ n) (hb : b < 2 ^ n) : a ^^^ b < 2 ^ n := Nat.xor_lt_two_pow ha hb
theorem bt_lt (b : Bool) : b.toNat < 2 := by cases b <;> decide
theorem bt_z (b : Bool) : narrow .boolean (.int (nI b.toNat)) = .int (nI b.toNat) := by cases b <;> rfl
/-! functions of four bits as numbers: nib f x is the value for x -/
def nib (f : Int64) (x : Nat) : Nat := uN f / 16 ^ x % 16
theorem nib_lt (f : Int64) (x : Nat) : nib f x < 16 := Nat.mod_lt _ (by decide)
theorem uN_lN {n : Nat} (h : n < 2 ^ 64) : uN (lN n) = n := wb_tn h
theorem lN_uN (f : Int64) : lN (uN f) = f := uN_inj (uN_lN (uN_lt f))
theorem uN_ushr (f : Int64) {k : Nat} (hk : k < 64) : uN (j_ushr f (nI k)) = uN f / 2 ^ k := uN_sk f hk
theorem nib_16 (x : Nat) : (16 : Nat) ^ x = 2 ^ (4 * x) := by rw [Nat.pow_mul]
theorem l2i_tn (z : Int64) : (Int64.toInt32 z).toBitVec.toNat = uN z % 2 ^ 32 := by
  rw [Int64.toBitVec_toInt32, BitVec.signExtend_eq_setWidth_of_le _ (by decide), BitVec.toNat_setWidth]
  rfl
/-- the low bits of a long as an int -/
theorem l2i_low (z : Int64) (m k : Nat) (hm : m + 1 = 2 ^ k) (hk : k < 32) : Int64.toInt32 z &&& nI m = nI (uN z % 2 ^ k) := by
  apply Int32.toBitVec_inj.mp
  rw [Int32.toBitVec_and]
  apply BitVec.eq_of_toNat_eq
  have hp : 2 ^ k < 2 ^ 32 := Nat.pow_lt_pow_right (by decide) hk
  have hz : uN z % 2 ^ k < 2 ^ k := Nat.mod_lt _ (Nat.two_pow_pos k)
  rw [BitVec.toNat_and, l2i_tn, pk_tn (n := m) (by omega), pk_tn (by omega), show m = 2 ^ k - 1 by omega, Nat.and_two_pow_sub_one_eq_mod]
  exact Nat.mod_mod_of_dvd _ (Nat.pow_dvd_pow 2 (by omega))
theorem v_at (f : Int64) {x : Nat} (hx : x < 16) : Int64.toInt32 (j_ushr f (nI (4 * x))) &&& nI 15 = nI (nib f x) := by
  rw [l2i_low _ 15 4 rfl (by decide), uN_ushr f (by omega), ← nib_16]
  rfl
/-! what the functions' methods reckon, as they do -/
def kF (v : Nat) : Int64 := lN (v * 1229782938247303441)
def twF (f : Int64) : Int64 := j_shl (f &&& 8608480567731124087) (nI 1)
def suF (f g : Int64) : Int64 := ((f &&& 8608480567731124087) + (g &&& 8608480567731124087)) ^^^ ((f ^^^ g) &&& (-8608480567731124088))
def diF (f g : Int64) : Int64 := ((f ||| (-8608480567731124088)) - (g &&& 8608480567731124087)) ^^^ ((f ^^^ (g ^^^ (-1))) &&& (-8608480567731124088))
def twN (f : Int64) : Nat → Int64 | 0 => f | n + 1 => twF (twN f n)
def prN (f g : Int64) : Nat → Int64 | 0 => 0 | n + 1 => suF (prN f g n) (twN f n &&& ((j_ushr g (nI n) &&& 1229782938247303441) * 15))
def haF (f : Int64) : Int64 := j_ushr f (nI 1) &&& 8608480567731124087
def maF (op : Nat) (f g : Int64) : Int64 := match op with
  | 0 => f ^^^ (-1) | 1 => diF 0 f | 2 => twF f | 3 => haF f | 4 => f &&& g | 5 => f ||| g | 6 => f ^^^ g | 7 => suF f g | 8 => diF f g | _ => prN f g 4
def afN (f g : Int64) : Nat → Int64 | 0 => 0 | i + 1 => afN f g i ||| j_shl (Int32.toInt64 (nI (nib f (nib g i)))) (nI (4 * i))
def ivN (f : Int64) : Nat → Int64 | 0 => 0 | i + 1 => ivN f i ||| j_shl (Int32.toInt64 (nI i)) (nI (4 * nib f i))
def imN (f : Int64) (s : Nat) : Nat → Nat | 0 => 0 | i + 1 => if s / 2 ^ i % 2 = 1 then imN f s i ||| 2 ^ nib f i else imN f s i
theorem imN_lt (f : Int64) (s : Nat) : ∀ i, imN f s i < 2 ^ 16
  | 0 => by show 0 < 2 ^ 16; decide
  | i + 1 => by
    unfold imN
    split
    · exact or_lt (imN_lt f s i) (Nat.pow_lt_pow_right (by decide) (nib_lt f i))
    · exact imN_lt f s i
theorem imN_1 {f : Int64} {s i : Nat} (h : s / 2 ^ i % 2 = 1) : imN f s (i + 1) = imN f s i ||| 2 ^ nib f i := if_pos h
theorem imN_0 {f : Int64} {s i : Nat} (h : ¬ s / 2 ^ i % 2 = 1) : imN f s (i + 1) = imN f s i := if_neg h
def imF (f : Int64) (s : Nat) : Nat := imN f s 16
def itF (f : Int64) : Nat → Nat | 0 => 65535 | n + 1 => imF f (itF f n)
theorem itF_lt (f : Int64) : ∀ n, itF f n < 65536
  | 0 => by show 65535 < 65536; decide
  | n + 1 => imN_lt f _ 16
def isStp (f : Int64) (n : Nat) : Prop := n ≤ 16 ∧ itF f n = itF f 16 ∧ ∀ j, j < n → itF f j ≠ itF f 16
noncomputable def deB (p : Prop) : Bool := @decide p (Classical.propDecidable p)
theorem deB_t {p : Prop} (h : p) : deB p = true := @decide_eq_true p (Classical.propDecidable p) h
theorem deB_f {p : Prop} (h : ¬ p) : deB p = false := @decide_eq_false p (Classical.propDecidable p) h
noncomputable def linB (f : Int64) : Bool := deB (∀ a, a < 16 → ∀ b, b < 16 → nib f (a ^^^ b) = nib f a ^^^ nib f b)
noncomputable def risB (f : Int64) : Bool := deB (∀ x, x < 15 → nib f x ≤ nib f (x + 1))
noncomputable def lowB (f : Int64) : Bool := deB (∀ k, k < 4 → ∀ x, x < 16 → ¬ (nib f x ^^^ nib f (x &&& (2 * 2 ^ k - 1))) / 2 ^ k % 2 = 1)
def mkN (s : Nat) : Nat → Int64 | 0 => 0 | i + 1 => if s / 2 ^ i % 2 = 1 then mkN s i ||| j_shl 15 (nI (4 * i)) else mkN s i
theorem mkN_1 {s i : Nat} (h : s / 2 ^ i % 2 = 1) : mkN s (i + 1) = mkN s i ||| j_shl 15 (nI (4 * i)) := if_pos h
theorem mkN_0 {s i : Nat} (h : ¬ s / 2 ^ i % 2 = 1) : mkN s (i + 1) = mkN s i := if_neg h
/-! bit counts, as they are reckoned -/
def lb1 (x : Int64) : Int64 := x - (j_ushr x (nI 1) &&& 6148914691236517205)
def lb2 (x : Int64) : Int64 := (x &&& 3689348814741910323) + (j_ushr x (nI 2) &&& 3689348814741910323)
def lb3 (x : Int64) : Int64 := (x + j_ushr x (nI 4)) &&& 1085102592571150095
def lb4 (x : Int64) (k : Nat) : Int64 := x + j_ushr x (nI k)
def lbc (x : Int64) : Int32 := Int64.toInt32 (lb4 (lb4 (lb4 (lb3 (lb2 (lb1 x))) 8) 16) 32) &&& nI 127
def ib1 (x : Int32) : Int32 := x - (i_ushr x (nI 1) &&& nI 1431655765)
def ib2 (x : Int32) : Int32 := (x &&& nI 858993459) + (i_ushr x (nI 2) &&& nI 858993459)
def ib3 (x : Int32) : Int32 := (x + i_ushr x (nI 4)) &&& nI 252645135
def ib4 (x : Int32) (k : Nat) : Int32 := x + i_ushr x (nI k)
def ibc (x : Int32) : Int32 := ib4 (ib4 (ib3 (ib2 (ib1 x))) 8) 16 &&& nI 63
def dfF (f g : Int64) : Int64 :=
  let d0 := f ^^^ g
  let d1 := d0 ||| j_ushr d0 (nI 2)
  (d1 ||| j_ushr d1 (nI 1)) &&& 1229782938247303441

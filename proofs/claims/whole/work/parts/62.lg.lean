/-! the law: its script, its ends -/
def jj (x y : Int32) : Int64 := j_shl (Int32.toInt64 x) (nI 32) ||| (Int32.toInt64 y &&& 4294967295)
def bvX (x : Int32) : Bool := decide (x.toInt ≠ 0)
theorem bv_t {x : Int32} (h : ¬ x.toInt = 0) : nI 1 = nI (bvX x).toNat := by unfold bvX; rw [decide_eq_true h]; rfl
theorem bv_f {x : Int32} (h : x.toInt = 0) : nI 0 = nI (bvX x).toNat := by unfold bvX; rw [decide_eq_false (fun z => z h)]; rfl
theorem lg_eq {x y : Int64} (h : x = y) : (lg_cmp x y).toInt = 0 := by
  subst h
  unfold lg_cmp
  rw [if_neg (by intro q; have q2 : x < x := q; rw [Int64.lt_iff_toInt_lt] at q2; omega), if_pos rfl]
  rfl
section GW
variable {I : g_I} {p : Program} {l : Launch} {e : Env} {R : Room} {s : State} {m : MethodId} {args : Array Value} {below : List Frame} {meth : Method} {c : Code} {Q : State → Prop} {nL cells slots pc : Nat} {lv lv' : g_Lv} {rest st0 : List Value} {ws ws' : va_W} {cc : ByteArray} {A : Nat → Prop} {D : va_G} {ty : g_T3} {own : String} {Ts : List Cond}
variable {X : g_X} {y : MethodName} {wsc wsc' : List Cond} {rm : Room} {bytes : ByteArray} {maxL index mc ms : Nat} {ret : Option FieldType} {As : List Value} {win wr : va_W} {post : Option Value → Prop} {postU : Option Value → va_W → Prop}
theorem g_sld {b L : Nat} {xs : Nat → Int32} (C : g_Cx (g_IU A D s) p s m args c cc nL A D ty own Ts) (hsx : va_X b L xs s s.heap) (hbl : b < s.heap.size) (hbA : ¬ A b) (hL : L ≤ 3072) {i : Nat} (hi : i < L) (hd : decode cc pc = .ok (.iaload, 1)) (k : gG (g_IU A D s) p l e R s m args below meth c Q nL cells slots (pc + 1) lv (.int (xs i) :: rest) ws) : gG (g_IU A D s) p l e R s m args below meth c Q nL cells slots pc lv (.int (nI i) :: .ref b :: rest) ws := fun H locs ls hI hl =>
  va_sld C.1 C.2.1 hsx hbl hbA hI.2.2 (i := nI i) (vp_in_nI hi (by omega)) hd (by rw [nI_clamp (by omega)]; exact k H locs ls hI hl)
theorem g_slen {b L : Nat} {xs : Nat → Int32} (C : g_Cx (g_IU A D s) p s m args c cc nL A D ty own Ts) (hsx : va_X b L xs s s.heap) (hbl : b < s.heap.size) (hbA : ¬ A b) (hd : decode cc pc = .ok (.arraylength, 1)) (k : gG (g_IU A D s) p l e R s m args below meth c Q nL cells slots (pc + 1) lv (.int (nI L) :: rest) ws) : gG (g_IU A D s) p l e R s m args below meth c Q nL cells slots pc lv (.ref b :: rest) ws := fun H locs ls hI hl =>
  va_slen C.1 C.2.1 hsx hbl hbA hI.2.2 hd (k H locs ls hI hl)
theorem and_31 (x : Int32) : ∃ u, u < 32 ∧ x &&& nI 31 = nI u := by
  obtain ⟨n, hn, rfl⟩ := wb_of32 x
  refine ⟨n % 32, by omega, ?_⟩
  rw [niand, show (31 : Nat) = 2 ^ 5 - 1 from rfl, Nat.and_two_pow_sub_one_eq_mod]
end GW

/-! the law: its script, its doubles -/
theorem lg_eq {x y : Int64} (h : x = y) : (lg_cmp x y).toInt = 0 := by
  subst h
  unfold lg_cmp
  rw [if_neg (by intro q; have q2 : x < x := q; rw [Int64.lt_iff_toInt_lt] at q2; omega), if_pos rfl]
  rfl
def g_XS (b L : Nat) (xs : Nat → Int32) : g_X := fun A U => va_X b L xs U U.heap ∧ b < U.heap.size ∧ ¬ A b
theorem g_XS_ok (b L : Nat) (xs : Nat → Int32) : g_Xok (g_XS b L xs) := ⟨fun A A' s U locs hS hW hA h => ⟨va_X.moved (State.WarmedH.alike hW) (va_X.kept h.1 (hS.2.1 b h.2.1 h.2.2)), Nat.lt_of_lt_of_le h.2.1 hS.1, fun q => h.2.2 (hA b q)⟩, fun A U g mk a h => ⟨va_X.moved (u := U) (U := U.calling g mk a) (Vm.Alike.refl U.vm) h.1, h.2⟩⟩
section GW
variable {I : g_I} {p : Program} {l : Launch} {e : Env} {R : Room} {s : State} {m : MethodId} {args : Array Value} {below : List Frame} {meth : Method} {c : Code} {Q : State → Prop} {nL cells slots pc : Nat} {lv lv' : g_Lv} {rest st0 : List Value} {ws ws' : va_W} {cc : ByteArray} {A : Nat → Prop} {D : va_G} {ty : g_T3} {own : String} {Ts : List Cond}
theorem g_sld {b L : Nat} {xs : Nat → Int32} (C : g_Cx I p s m args c cc nL A D ty own Ts) (hsx : va_X b L xs s s.heap) (hbl : b < s.heap.size) (hbA : ¬ A b) (hL : L ≤ 260) {i : Nat} (hi : i < L) (hd : decode cc pc = .ok (.iaload, 1)) (k : gG I p l e R s m args below meth c Q nL cells slots (pc + 1) lv (.int (xs i) :: rest) ws) : gG I p l e R s m args below meth c Q nL cells slots pc lv (.int (nI i) :: .ref b :: rest) ws := fun H locs ls hI hl =>
  va_sld C.1 C.2.1 hsx hbl hbA (C.2.2.2.2.2.2 _ _ _ hI).2 (i := nI i) (vp_in_nI hi (by omega)) hd (by rw [nI_clamp (by omega)]; exact k H locs ls hI hl)
theorem g_slen {b L : Nat} {xs : Nat → Int32} (C : g_Cx I p s m args c cc nL A D ty own Ts) (hsx : va_X b L xs s s.heap) (hbl : b < s.heap.size) (hbA : ¬ A b) (hd : decode cc pc = .ok (.arraylength, 1)) (k : gG I p l e R s m args below meth c Q nL cells slots (pc + 1) lv (.int (nI L) :: rest) ws) : gG I p l e R s m args below meth c Q nL cells slots pc lv (.ref b :: rest) ws := fun H locs ls hI hl =>
  va_slen C.1 C.2.1 hsx hbl hbA (C.2.2.2.2.2.2 _ _ _ hI).2 hd (k H locs ls hI hl)
theorem g_dadd (C : g_Cx I p s m args c cc nL A D ty own Ts) {x y : UInt64} (hd : decode cc pc = .ok (.dadd, 1)) (hne : vf_n64 (FP.dadd x y)) (k : gG I p l e R s m args below meth c Q nL cells slots (pc + 1) lv (.double (FP.dadd x y) :: rest) ws) : gG I p l e R s m args below meth c Q nL cells slots pc lv (.double y :: .double x :: rest) ws := fun H locs ls hI hl => lv_dadd C.1 C.2.1 hd hne (k H locs ls hI hl)
theorem g_dconst1 (C : g_Cx I p s m args c cc nL A D ty own Ts) (hd : decode cc pc = .ok (.dconst 1, 1)) (k : gG I p l e R s m args below meth c Q nL cells slots (pc + 1) lv (.double FP.dconst1 :: rest) ws) : gG I p l e R s m args below meth c Q nL cells slots pc lv rest ws := fun H locs ls hI hl => lv_dconst1 C.1 C.2.1 hd (k H locs ls hI hl)
end GW
theorem and_max (x : Int32) : ∃ u, u < 2147483648 ∧ x &&& nI 2147483647 = nI u := by
  obtain ⟨n, hn, rfl⟩ := wb_of32 x
  refine ⟨n % 2147483648, by omega, ?_⟩
  rw [niand, show (2147483647 : Nat) = 2 ^ 31 - 1 from rfl, Nat.and_two_pow_sub_one_eq_mod]
theorem hp_up {p2 : Nat → Nat} {k u : Nat} (hp : (∀ k, k < 10 → 1 ≤ p2 k ∧ p2 k ≤ 5) ∧ p2 10 ≤ 5) (hlo : (if k = 10 then 0 else 1) ≤ u) (hu : u ≤ 5) : (∀ k', k' < 10 → 1 ≤ va_up p2 k u k' ∧ va_up p2 k u k' ≤ 5) ∧ va_up p2 k u 10 ≤ 5 := by
  refine ⟨fun i hi => ?_, ?_⟩
  · by_cases q : i = k
    · subst q
      rw [va_up_self]
      rw [if_neg (by omega)] at hlo
      exact ⟨hlo, hu⟩
    · rw [va_up_ne _ _ q]; exact hp.1 i hi
  · by_cases q : 10 = k
    · subst q; rw [va_up_self]; exact hu
    · rw [va_up_ne _ _ q]; exact hp.2
theorem fo_up {fo : Nat → Int64} {es : List Ent} {i : Nat} (h : ∀ j, j < i → fo j = eF es j) : ∀ j, j < i + 1 → vp_updL fo i (eF es i) j = eF es j := by
  intro j hj
  by_cases q : j = i
  · rw [q, pk_uLs]
  · rw [pk_uLn q]; exact h j (by omega)

/-! methods that answer doubles -/
def g_pd (p : UInt64 → Prop) : Option Value → Prop := fun v => ∃ r, v = some (.double r) ∧ p r
def g_ud (p : UInt64 → va_W → Prop) : Option Value → va_W → Prop := fun v w => ∃ r, v = some (.double r) ∧ p r w
section GD
variable {I : g_I} {p : Program} {l : Launch} {e : Env} {R : Room} {s : State} {m : MethodId} {args : Array Value} {below : List Frame} {meth : Method} {c : Code} {Q : State → Prop} {nL cells slots pc : Nat} {lv lv' : g_Lv} {rest st0 : List Value} {ws ws' : va_W} {cc : ByteArray} {A : Nat → Prop} {D : va_G} {ty : g_T3} {own : String} {Ts : List Cond}
variable {X : g_X} {y : MethodName} {wsc wsc' : List Cond} {rm : Room} {bytes : ByteArray} {maxL index mc ms : Nat} {ret : Option FieldType} {As : List Value} {win wr : va_W} {post : Option Value → Prop} {postU : Option Value → va_W → Prop}
theorem g_ofPd {pst : UInt64 → Prop} (hy : plainName y.cls = true) (hcl : y.cls = own) (hw : wsc = Cond.code y cc nL (some .double) :: wsc') (hX : g_Xok X) (hlen : (lg_sl As).length ≤ nL)
    (k : ∀ (p : Program) (e : Env) (s : State) (m : MethodId) (args : Array Value) (below : List Frame) (meth : Method) (c : Code) (Q : State → Prop), g_Cx (g_IP D s win) p s m args c cc nL (fun _ => False) D ty own wsc → (g_Xok X ∧ X (fun _ => False) s) →
      (∀ (r : UInt64) (pc : Nat) (lv : g_Lv) (w : va_W), decode cc pc = .ok (.dreturn, 1) → pst r → gG (g_IP D s win) p l e rm s m args below meth c Q nL 0 0 pc lv [.double r] w) →
      gG (g_IP D s win) p l e rm s m args below meth c Q nL 0 0 0 (lv_args 0 As) [] win) : g_P l y wsc rm D ty X As win (g_pd pst) := by
  refine Met.ofW (cc := cc) (maxL := nL) (ret := some .double) hy hw ?_
  intro p e s m args below meth c s₁ B hml hv
  obtain ⟨rfl, hx0, hP, hK⟩ := hv
  have hb := B.bytes
  have hr := B.returns
  have hlocks := B.notSynchronized
  have hl := lv_entry As (n := nL) hlen
  rw [lg_entry_eq]
  refine k p e s m _ below meth c _ ⟨B.exec, hb, hml, by rw [← hcl]; exact findClass_of_methodNamed B.named, atoms_spec (ws := wsc) B.pre, hK, fun w H locs h => ?_⟩ ⟨hX, hx0⟩ (fun r pc lv w hd hp H locs ls h hl9 => ?_) s.heap [] _ ⟨rfl, rfl, rfl, hP⟩ hl
  · obtain ⟨rfl, rfl, rfl, h4⟩ := h
    exact ⟨h4, va_S.rf⟩
  · obtain ⟨rfl, rfl, rfl, h4⟩ := h
    exact W.dret (v := r) B.exec hb hr (fun t ht hW => ⟨⟨_, rfl, r, rfl, hp⟩, ht⟩) (fun q hq => absurd hq List.not_mem_nil) hd hlocks
theorem g_ofUd {pst : UInt64 → va_W → Prop} (hy : plainName y.cls = true) (hcl : y.cls = own) (hw : wsc = Cond.code y cc nL (some .double) :: wsc') (hX : g_Xok X) (hlen : (lg_sl As).length ≤ nL)
    (k : ∀ (p : Program) (e : Env) (s : State) (m : MethodId) (args : Array Value) (below : List Frame) (meth : Method) (c : Code) (Q : State → Prop) (A : Nat → Prop), g_Cx (g_IU A D s) p s m args c cc nL A D ty own wsc → (∀ q, s.heap.size ≤ q → A q) → (g_Xok X ∧ X A s) → meth.name = y.name →
      (∀ (r : UInt64) (cells slots pc : Nat) (lv : g_Lv) (w : va_W), decode cc pc = .ok (.dreturn, 1) → pst r w → cells ≤ mc → slots ≤ ms → gG (g_IU A D s) p l e rm s m args below meth c Q nL cells slots pc lv [.double r] w) →
      gG (g_IU A D s) p l e rm s m args below meth c Q nL 0 0 0 (lv_args 0 As) [] win) : g_U l y wsc rm D ty X As win mc ms (g_ud pst) := by
  intro sz
  refine Met.ofW (cc := cc) (maxL := nL) (ret := some .double) hy hw ?_
  intro p e s m args below meth c s₁ B hml hv
  obtain ⟨rfl, hsz, hx0, hP, hK, hD0⟩ := hv
  subst hsz
  have hb := B.bytes
  have hr := B.returns
  have hlocks := B.notSynchronized
  have hl := lv_entry As (n := nL) hlen
  rw [lg_entry_eq]
  refine k p e s m _ below meth c _ (va_A win s.heap.size) ⟨B.exec, hb, hml, by rw [← hcl]; exact findClass_of_methodNamed B.named, atoms_spec (ws := wsc) B.pre, hK, fun w H locs h => ⟨h.1, h.2.2⟩⟩ (fun q h => Or.inr h) ⟨hX, hx0⟩ (name_of_methodNamed B.named B.method).1 (fun r cells slots pc lv w hd hp h1 h2 H locs ls hI hl9 => ?_) s.heap [] _ ⟨hP, hD0.self, va_S.rf⟩ hl
  refine W.widen h1 h2 ?_
  exact W.dret (v := r) B.exec hb hr (fun t ht hW => ⟨⟨_, _, rfl, ⟨r, rfl, hp⟩, by rw [ht]; exact hI.1, hI.2.1⟩, hI.2.2.F ht⟩) hI.2.2.2.2 hd hlocks
theorem g_kd {pst : UInt64 → Prop} (k : ∀ r, pst r → gG I p l e R s m args below meth c Q nL cells slots pc lv (.double r :: rest) ws) : ∀ v, g_pd pst v → gG I p l e R s m args below meth c Q nL cells slots pc lv (v.toList ++ rest) ws := by
  rintro _ ⟨r, rfl, h⟩
  exact k r h
theorem g_kud {pst : UInt64 → va_W → Prop} (k : ∀ r w, pst r w → gG I p l e R s m args below meth c Q nL cells slots pc lv (.double r :: rest) (wr ++ w)) : ∀ v w, g_ud pst v w → gG I p l e R s m args below meth c Q nL cells slots pc lv (v.toList ++ rest) (wr ++ w) := by
  rintro _ w ⟨r, rfl, h⟩
  exact k r w h
theorem g_ddiv (C : g_Cx I p s m args c cc nL A D ty own Ts) {x y : UInt64} (hd : decode cc pc = .ok (.ddiv, 1)) (hne : vf_n64 (FP.ddiv x y)) (k : gG I p l e R s m args below meth c Q nL cells slots (pc + 1) lv (.double (FP.ddiv x y) :: rest) ws) : gG I p l e R s m args below meth c Q nL cells slots pc lv (.double y :: .double x :: rest) ws := fun H locs ls hI hl => lv_ddiv C.1 C.2.1 hd hne (k H locs ls hI hl)
end GD
/-! a quotient of two small numbers is no NaN -/
def fOkD (d : FP.Core.Datum) : Prop := ∃ s, d = .inf s ∨ ∃ c q, d = .fin s c q ∧ c < 2 ^ 53 ∧ q ≤ 971
theorem fe_inf (s : Bool) : FP.Core.encode FP.Core.b64 (.inf s) % 2 ^ 63 ≤ 9218868437227405312 := by cases s <;> decide
theorem fe_fin {s : Bool} {c : Nat} {q : Int} (hc : c < 2 ^ 53) (hq : q ≤ 971) : FP.Core.encode FP.Core.b64 (.fin s c q) % 2 ^ 63 ≤ 9218868437227405312 := by
  have ht : FP.Core.b64.tails = 4503599627370496 := by decide
  have he : FP.Core.b64.exps = 2048 := by decide
  have hm : FP.Core.b64.qmin = -1074 := by decide
  have hs : s.toNat < 2 := by cases s <;> decide
  show (if c < FP.Core.b64.tails then FP.Core.assemble FP.Core.b64 s 0 c else FP.Core.assemble FP.Core.b64 s ((q - FP.Core.b64.qmin).toNat + 1) (c - FP.Core.b64.tails)) % 2 ^ 63 ≤ 9218868437227405312
  unfold FP.Core.assemble
  rw [ht, he, hm]
  have hp : (2 : Nat) ^ 53 = 9007199254740992 := by decide
  have hp2 : (2 : Nat) ^ 63 = 9223372036854775808 := by decide
  rw [hp] at hc
  rw [hp2]
  split <;> omega
theorem fe_ok {d : FP.Core.Datum} (h : fOkD d) : FP.Core.encode FP.Core.b64 d % 2 ^ 63 ≤ 9218868437227405312 := by
  rcases h with ⟨s, rfl | ⟨c, q, rfl, h1, h2⟩⟩
  · exact fe_inf s
  · exact fe_fin h1 h2
theorem fb_ok (s : Bool) {c : Nat} (q : Int) (hc : c < 2 ^ 53) : fOkD (FP.Core.bound FP.Core.b64 s c q) := by
  have hm : FP.Core.b64.qmax = 971 := by decide
  unfold FP.Core.bound
  rw [hm]
  split
  · exact ⟨s, Or.inr ⟨c, q, rfl, hc, by assumption⟩⟩
  · exact ⟨s, Or.inl rfl⟩
theorem fr_ok (s : Bool) (a b : Nat) (e : Int) : fOkD (FP.Core.roundRatio FP.Core.b64 s a b e) := by
  have ht : FP.Core.b64.tails = 4503599627370496 := by decide
  unfold FP.Core.roundRatio
  split
  · exact ⟨s, Or.inr ⟨0, _, rfl, by decide, by decide⟩⟩
  · unfold FP.Core.roundAt FP.Core.settle
    split
    · exact fb_ok s _ (by assumption)
    · exact fb_ok s _ (by rw [ht]; decide)
def fChk (n : Nat) : Bool := match FP.Core.decode FP.Core.b64 (FP.i2d (nI n)).toNat with
  | .fin _ c _ => decide (n = 0 ∨ c ≠ 0)
  | _ => false
def fAll : Nat → Bool | 0 => true | n + 1 => fChk n && fAll n
theorem fAll_at : ∀ {n k : Nat}, fAll n = true → k < n → fChk k = true
  | n + 1, k, h, hk => by
    have h1 : (fChk n && fAll n) = true := h
    rw [Bool.and_eq_true] at h1
    rcases Nat.lt_or_ge k n with q | q
    · exact fAll_at h1.2 q
    · rw [show k = n by omega]; exact h1.1
theorem fAll_12001 : fAll 12001 = true := by decide +kernel
theorem fn_ok {a b : UInt64} (h : fOkD (FP.Core.quotient FP.Core.b64 (FP.Core.decode FP.Core.b64 a.toNat) (FP.Core.decode FP.Core.b64 b.toNat))) : vf_n64 (FP.ddiv a b) := by
  have h1 := fe_ok h
  show (UInt64.ofNat (FP.Core.encode FP.Core.b64 (FP.Core.quotient FP.Core.b64 (FP.Core.decode FP.Core.b64 a.toNat) (FP.Core.decode FP.Core.b64 b.toNat)))) &&& 0x7fffffffffffffff ≤ 0x7ff0000000000000
  generalize FP.Core.encode FP.Core.b64 (FP.Core.quotient FP.Core.b64 (FP.Core.decode FP.Core.b64 a.toNat) (FP.Core.decode FP.Core.b64 b.toNat)) = n at h1
  rw [UInt64.le_iff_toNat_le, UInt64.toNat_and]
  show (UInt64.ofNat n).toNat &&& (2 ^ 63 - 1) ≤ 9218868437227405312
  rw [Nat.and_two_pow_sub_one_eq_mod, UInt64.toNat_ofNat']
  rw [Nat.mod_mod_of_dvd _ (Nat.pow_dvd_pow 2 (by decide))]
  exact h1
theorem mn_ok {m n : Nat} (hm : m ≤ 12000) (hn : n ≤ 12000) (h0 : n ≠ 0) : vf_n64 (FP.ddiv (FP.i2d (nI m)) (FP.i2d (nI n))) := by
  have h1 := fAll_at fAll_12001 (show m < 12001 by omega)
  have h2 := fAll_at fAll_12001 (show n < 12001 by omega)
  apply fn_ok
  unfold fChk at h1 h2
  generalize FP.Core.decode FP.Core.b64 (FP.i2d (nI m)).toNat = x at h1
  generalize FP.Core.decode FP.Core.b64 (FP.i2d (nI n)).toNat = y at h2
  cases x with
  | nan => exact absurd h1 (by simp)
  | inf s => exact absurd h1 (by simp)
  | fin s c q =>
    cases y with
    | nan => exact absurd h2 (by simp)
    | inf s => exact absurd h2 (by simp)
    | fin t d r =>
      have hd : ¬ d = 0 := by
        have h3 := of_decide_eq_true h2
        exact h3.resolve_left h0
      have hq : FP.Core.quotient FP.Core.b64 (.fin s c q) (.fin t d r) = FP.Core.roundRatio FP.Core.b64 (s != t) c d (q - r) := if_neg hd
      rw [hq]
      exact fr_ok _ _ _ _
/-- the mean cost -/
def mnD (m n : Nat) : UInt64 := if n = 0 then 0 else FP.ddiv (FP.i2d (nI m)) (FP.i2d (nI n))

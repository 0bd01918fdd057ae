/-! bodies with a table of handlers; a call of a method that may throw, from a body that catches; a call of such a body -/
section GT
variable {I : g_I} {p : Program} {l : Launch} {e : Env} {R : Room} {s : State} {m : MethodId} {args : Array Value} {below : List Frame} {meth : Method} {c : Code} {Q : State → Prop} {nL cells slots pc : Nat} {lv lv' : g_Lv} {rest st0 : List Value} {ws ws' : va_W} {cc : ByteArray} {A : Nat → Prop} {D : va_G} {ty : g_T3} {own : String} {Ts : List Cond}
variable {X : g_X} {y : MethodName} {wsc wsc' : List Cond} {rm : Room} {bytes : ByteArray} {maxL index mc ms : Nat} {ret : Option FieldType} {As : List Value} {win wr : va_W} {post : Option Value → Prop} {postU : Option Value → va_W → Prop}
theorem g_ofWi {hh : List (Nat × Nat × Nat × Nat)} {pst : Int32 → va_W → Prop} (hy : plainName y.cls = true) (hcl : y.cls = own) (hw : wsc = Cond.codeWith y cc nL (some .int) hh :: wsc') (hX : g_Xok X) (hlen : (lg_sl As).length ≤ nL)
    (k : ∀ (p : Program) (e : Env) (s : State) (m : MethodId) (args : Array Value) (below : List Frame) (meth : Method) (c : Code) (Q : State → Prop) (A : Nat → Prop), g_Cx (g_IU A D s) p s m args c cc nL A D ty own wsc → (∀ q, s.heap.size ≤ q → A q) → (g_Xok X ∧ X A s) → c.exceptionTable.toList = tableOf hh →
      (∀ (r : Int32) (cells slots pc : Nat) (lv : g_Lv) (w : va_W), decode cc pc = .ok (.ireturn, 1) → pst r w → cells ≤ mc → slots ≤ ms → gG (g_IU A D s) p l e rm s m args below meth c Q nL cells slots pc lv [.int r] w) →
      gG (g_IU A D s) p l e rm s m args below meth c Q nL 0 0 0 (lv_args 0 As) [] win) : g_U l y wsc rm D ty X As win mc ms (g_ui pst) := by
  intro sz
  refine va_MetW (hh := hh) (cc := cc) (maxL := nL) (ret := some .int) hy hw ?_
  intro p e s m args below meth c s₁ B hml hv
  obtain ⟨rfl, hsz, hx0, hP, hK, hD0⟩ := hv
  subst hsz
  have hb := B.bytes
  have hr := B.returns
  have hlocks := B.notSynchronized
  have hl := lv_entry As (n := nL) hlen
  rw [lg_entry_eq]
  refine k p e s m _ below meth c _ (va_A win s.heap.size) ⟨B.exec, hb, hml, by rw [← hcl]; exact findClass_of_methodNamed B.named, atoms_spec (ws := wsc) B.pre, hK, fun w H locs h => ⟨h.1, h.2.2⟩⟩ (fun q h => Or.inr h) ⟨hX, hx0⟩ (vx_table (x := y) B (atoms_spec (ws := wsc) B.pre _ (by rw [hw]; exact List.mem_cons_self))) (fun r cells slots pc lv w hd hp h1 h2 H locs ls hI hl9 => ?_) s.heap [] _ ⟨hP, hD0.self, va_S.rf⟩ hl
  refine W.widen h1 h2 ?_
  exact W.iret (v := r) B.exec hb hr (fun t ht hW => ⟨⟨_, _, rfl, ⟨r, rfl, hp⟩, by rw [ht]; exact hI.1, hI.2.1⟩, hI.2.2.F ht⟩) hI.2.2.2.2 hd hlocks
/-- the row of the table that takes E at pc, and what is owed there -/
def x_H (c : Code) (own : String) (args : Array Value) (s : State) (E : String) (pc : Nat) (G : Nat → Prop) : Prop := ∃ (pre : List ExceptionTableEntry) (x : ExceptionTableEntry) (suf : List ExceptionTableEntry) (name : String), c.exceptionTable.toList = pre ++ x :: suf ∧ (∀ z ∈ pre, covers z pc = false ∨ (z.catchType ≠ 0 ∧ ∃ nm : String, (Cond.classLink own z.catchType nm).before args s = true ∧ va_Nc E nm s)) ∧ covers x pc = true ∧ x.catchType ≠ 0 ∧ (Cond.classLink own x.catchType name).before args s = true ∧ (Cond.castable E name).before args s = true ∧ G x.handlerPc
theorem g_callT {pe : String → Prop} {wc : va_W} (hown : s.vm.findClass own = some m.cls) (hA : ∀ q, s.heap.size ≤ q → A q) (isC isR : List Nat) (hC : isC.map (fun i => ws[i]?) = wc.map some) (hR : isR.map (fun i => ws[i]?) = wr.map some) (hn : va_nd isR = true) (hdis : isR.all (fun i => !isC.contains i) = true)
    (hrun : ∀ (H : Heap) (locs : List Loc) (ls : Array Slot), g_IU A D s ws H locs → lv_has ls nL lv → vx_Run p l e R s m args below meth c H locs cells slots mc ms (F0 m pc ls st0) rest (fun st oc t => (∃ v w, oc = .returned v ∧ postU v w ∧ va_P D vwCl w t.heap ∧ va_D (va_A wc H.size) w) ∧ va_F (va_A wc H.size) st t) (fun E st t => pe E ∧ va_P D vwCl wc t.heap ∧ va_D (va_A wc H.size) wc ∧ va_F (va_A wc H.size) st t) (va_A wc H.size)) (kx : ∀ (E : String) (q : Nat), pe E → x_H c own args s E pc (fun h => gG (g_IU A D s) p l e R s m args below meth c Q nL (cells + mc) (slots + ms) h lv [.ref q] (wr ++ wc))) (k : ∀ v w, postU v w → gG (g_IU A D s) p l e R s m args below meth c Q nL (cells + mc) (slots + ms) (pc + 3) lv (v.toList ++ rest) (wr ++ w)) : gG (g_IU A D s) p l e R s m args below meth c Q nL cells slots pc lv st0 ws := by
  intro H locs ls hI hl T hT X
  rcases hrun H locs ls hI hl T hT X with ⟨v, st₀, t, T', L, h0, X', hL, e1, e2, ⟨⟨v', w, hv, hp, hP1, hD1⟩, hz, hk⟩, st⟩ | ⟨q9, st₀, t, T', L, E, ce, h0, X', hL, e1, e2, ⟨hpe, hP1, hD1, hz, hk⟩, hce, hcv, hcl, st⟩
  · cases hv
    rw [h0] at hz hk
    have hF := va_free hI.2.1 hI.2.2 hA isC hC
    rw [← e1] at hP1 hk hz
    obtain ⟨hP, hD⟩ := va_join hI.1 hI.2.1 isC isR hC hR hn (fun i hi hc => by
      have h1 := List.all_eq_true.mp hdis i hi
      simp [hc] at h1) hk hF hP1 hD1
    obtain ⟨t2, a1, b1⟩ := k v w hp T'.heap (locs ++ L) ls ⟨hP, hD, ⟨Nat.le_trans hI.2.2.1 hz, fun q h1 h2 => by
        rw [hk q (Nat.lt_of_lt_of_le h1 hI.2.2.1) (fun z => h2 (hF q z))]
        exact hI.2.2.2.1 q h1 h2, fun q hq => by
        rcases List.mem_append.mp hq with h | h
        · exact hI.2.2.2.2 q h
        · exact hF _ (hL q h)⟩⟩ hl T' rfl X'
    exact ⟨t2, st t2 a1, b1⟩
  · rw [h0] at hz hk
    have hF := va_free hI.2.1 hI.2.2 hA isC hC
    rw [← e1] at hP1 hk hz
    obtain ⟨hP, hD⟩ := va_join hI.1 hI.2.1 isC isR hC hR hn (fun i hi hc => by
      have h1 := List.all_eq_true.mp hdis i hi
      simp [hc] at h1) hk hF hP1 hD1
    obtain ⟨pre, x, suf, name, g1, g2, g3, g4, g5, g6, g7⟩ := kx E q9 hpe
    obtain ⟨t2, a1, b1⟩ := vx_catch (H := T'.heap) (rest := rest) hown pre x suf g1 g2 g3 g4 g5 g6 (by rw [e1]; exact hce) hcv hcl (g7 T'.heap (locs ++ L) ls ⟨hP, hD, ⟨Nat.le_trans hI.2.2.1 hz, fun q h1 h2 => by
      rw [hk q (Nat.lt_of_lt_of_le h1 hI.2.2.1) (fun z => h2 (hF q z))]
      exact hI.2.2.2.1 q h1 h2, fun q hq => by
      rcases List.mem_append.mp hq with h | h
      · exact hI.2.2.2.2 q h
      · exact hF _ (hL q h)⟩⟩ hl) T' rfl X'
    exact ⟨t2, st.trans a1, b1⟩
theorem g_callTV {pe : String → Prop} {b ci N q0 : Nat} {fs : List Value} {T : u_T} (C : g_Cx (g_IU A D s) p s m args c cc nL A D ty own Ts) (hX : g_Xok X ∧ X A s) (hM : g_T l y wsc rm D ty X (.ref b :: As) win mc ms postU pe) (hw : wsc = Cond.code y bytes maxL ret :: wsc') (hg : GoodIn Ts (wsV own index y.cls y wsc)) (n : Nat) (hy : y.cls ≠ "java/lang/invoke/MethodHandle" ∧ y.cls ≠ "java/lang/invoke/VarHandle" ∧ (parseMethodDescriptor y.desc).map (fun d => d.parameters.length) = some n) (hnA : As.length = n) (hrm : rm.cells = mc ∧ rm.slots = ms) (hR : rm.frames + 1 ≤ R.frames ∧ 8 + (maxL + 11) + rm.locals ≤ R.locals) (hrc : vwCl[ci]? = some (y.cls, T, N)) (hre : ws[q0]? = some (b, .inr (ci, fs))) (hA : ∀ q, s.heap.size ≤ q → A q) (isC isR : List Nat) (hC : isC.map (fun i => ws[i]?) = win.map some) (hCf : isC.filterMap (fun i => ws[i]?) = win) (hnC : va_nd isC = true) (hRr : isR.map (fun i => ws[i]?) = wr.map some) (hn : va_nd isR = true) (hdis : isR.all (fun i => !isC.contains i) = true) (hrest : (rest.map fun v => v.category).sum ≤ 8) (hd : decode cc pc = .ok (.invokevirtual index, 3)) (hS0 : cells + mc ≤ R.cells ∧ slots + ms ≤ R.slots) (hst : As.reverse ++ .ref b :: rest = st0) (kx : ∀ (E : String) (q : Nat), pe E → x_H c own args s E pc (fun h => gG (g_IU A D s) p l e R s m args below meth c Q nL (cells + mc) (slots + ms) h lv [.ref q] (wr ++ win))) (k : ∀ v w, postU v w → gG (g_IU A D s) p l e R s m args below meth c Q nL (cells + mc) (slots + ms) (pc + 3) lv (v.toList ++ rest) (wr ++ w)) : gG (g_IU A D s) p l e R s m args below meth c Q nL cells slots pc lv st0 ws := by
  refine g_callT (rest := rest) (wc := win) C.2.2.2.1 hA isC isR hC hRr hn hdis (fun H locs ls hI hl => ?_) kx k
  exact vx_runV ⟨C.1, C.2.1, C.2.2.1, C.2.2.2.1, C.2.2.2.2.1⟩ (hM H.size) (cwV n C.2.2.2.2.1 hg hw hrm.1 hrm.2 ⟨rfl, hy⟩ hR) ⟨fun a U g mk q => ⟨q.1, q.2.1, hX.1.2 _ _ _ _ _ q.2.2.1, q.2.2.2.1, va_K.moved (u := U) (U := U.calling g mk a) (Vm.Alike.refl U.vm) q.2.2.2.2.1, q.2.2.2.2.2⟩, va_recv C.2.2.2.2.2.1 hI.1 hrc hre, fun U hU hW => ⟨rfl, by rw [hU], hX.1.1 A _ s U locs (by rw [hU]; exact hI.2.2) hW (fun q f => va_free hI.2.1 hI.2.2 hA isC hC q f) hX.2, by rw [hU]; exact hI.1.sub isC hCf, va_K.moved hW.alike C.2.2.2.2.2.1, (hI.2.1.sub isC hnC hC).weaken (fun _ _ _ _ => trivial)⟩⟩ rfl hnA hl.1 hst.symm (lv_room hrest) hd hS0
theorem g_callUW {hh : List (Nat × Nat × Nat × Nat)} (C : g_Cx (g_IU A D s) p s m args c cc nL A D ty own Ts) (hX : g_Xok X ∧ X A s) (hM : g_U l y wsc rm D ty X As win mc ms postU) (hw : wsc = Cond.codeWith y bytes maxL ret hh :: wsc') (hg : GoodIn Ts (va_wsS own index y wsc)) (n : Nat) (hy : y.cls ≠ "java/lang/invoke/MethodHandle" ∧ y.cls ≠ "java/lang/invoke/VarHandle" ∧ (parseMethodDescriptor y.desc).map (fun d => d.parameters.length) = some n) (hnA : As.length = n) (hrm : rm.cells = mc ∧ rm.slots = ms) (hR : rm.frames + 1 ≤ R.frames ∧ 8 + (maxL + 11) + rm.locals ≤ R.locals) (hA : ∀ q, s.heap.size ≤ q → A q) (isC isR : List Nat) (hC : isC.map (fun i => ws[i]?) = win.map some) (hCf : isC.filterMap (fun i => ws[i]?) = win) (hnC : va_nd isC = true) (hRr : isR.map (fun i => ws[i]?) = wr.map some) (hn : va_nd isR = true) (hdis : isR.all (fun i => !isC.contains i) = true) (hrest : (rest.map fun v => v.category).sum ≤ 8) (hd : decode cc pc = .ok (.invokestatic index, 3)) (hS0 : cells + mc ≤ R.cells ∧ slots + ms ≤ R.slots) (hst : As.reverse ++ rest = st0) (k : ∀ v w, postU v w → gG (g_IU A D s) p l e R s m args below meth c Q nL (cells + mc) (slots + ms) (pc + 3) lv (v.toList ++ rest) (wr ++ w)) : gG (g_IU A D s) p l e R s m args below meth c Q nL cells slots pc lv st0 ws := by
  refine g_callU (rest := rest) (wc := win) hA isC isR hC hRr hn hdis (fun H locs ls hI hl => ?_) k
  exact vx_runSW (hh := hh) (bytes := bytes) (maxL := maxL) (ret := ret) ⟨C.1, C.2.1, C.2.2.1, C.2.2.2.1, C.2.2.2.2.1⟩ (hM H.size) (vx_cwSW n C.2.2.2.2.1 hg hw hrm.1 hrm.2 hy hR) ⟨fun a U g mk q => ⟨q.1, q.2.1, hX.1.2 _ _ _ _ _ q.2.2.1, q.2.2.2.1, va_K.moved (u := U) (U := U.calling g mk a) (Vm.Alike.refl U.vm) q.2.2.2.2.1, q.2.2.2.2.2⟩, fun U hU hW => ⟨rfl, by rw [hU], hX.1.1 A _ s U locs (by rw [hU]; exact hI.2.2) hW (fun q f => va_free hI.2.1 hI.2.2 hA isC hC q f) hX.2, by rw [hU]; exact hI.1.sub isC hCf, va_K.moved hW.alike C.2.2.2.2.2.1, (hI.2.1.sub isC hnC hC).weaken (fun _ _ _ _ => trivial)⟩⟩ rfl hnA hl.1 hst.symm (lv_room hrest) hd hS0
end GT

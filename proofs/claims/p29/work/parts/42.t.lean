/-! methods that throw: their contract, the rows of a throw, and of its catching -/
def x_T (k : Nat) : Nat × String := match k with
  | 0 => (45, "java/lang/IndexOutOfBoundsException")
  | 1 => (60, "java/lang/IllegalArgumentException")
  | _ => (97, "java/lang/IllegalStateException")
def x_S (k : Nat) : Nat × String := match k with
  | 0 => (43, "there is no such operation")
  | 1 => (58, "there is no such price")
  | 2 => (68, "a constant is 0 to 15")
  | 3 => (95, "two inputs have the same value")
  | 4 => (124, "there is no such measure")
  | 5 => (141, "a budget is 0 to 6")
  | 6 => (151, "a cost is 0 to 6")
  | 7 => (159, "there is no such entry")
  | 8 => (177, "an entry does not tell this")
  | _ => (183, "a set of inputs is 0 to 65535")
def x_N : List String := ["java/lang/RuntimeException", "java/lang/Exception"]
def x_De : List MethodName := [Bundle.initS "java/lang/RuntimeException", Bundle.initS "java/lang/Exception", Bundle.initS Bundle.tN]
def x_IO : String := "java/lang/IndexOutOfBoundsException"
def x_IA : String := "java/lang/IllegalArgumentException"
def x_IS : String := "java/lang/IllegalStateException"
def g_XT : g_X := fun A U => g_XN A U ∧ (∀ k, k < 3 → va_Nw (.castable (x_T k).2 (x_T k).2) U) ∧ (∀ k, k < 10 → ∃ sa, vk_R RX5 (x_S k).1 (x_S k).2 sa U) ∧ vx_Zq Bundle.tN "UNASSIGNED_STACK" Bundle.steD A U U.heap ∧ vx_Zq Bundle.tN "SUPPRESSED_SENTINEL" Bundle.listD A U U.heap ∧ True ∧ ∀ y ∈ x_De, va_Nw (.declares y) U
theorem g_XT_ok : g_Xok g_XT := by
  refine ⟨fun A A' s U locs hS hW hA h => ⟨g_XN_ok.1 A A' s U locs hS hW hA h.1, fun k hk => va_Nw.warmC hW (h.2.1 k hk), fun k hk => ?_, ((h.2.2.2.1.kept hS.2.1).moved hW.alike).narrow hA, ((h.2.2.2.2.1.kept hS.2.1).moved hW.alike).narrow hA, trivial, fun y hy => va_Nw.warmD hW (h.2.2.2.2.2.2 y hy)⟩, fun A U g mk a h => ⟨g_XN_ok.2 A U g mk a h.1, fun k hk => va_Nw.same rfl rfl (h.2.1 k hk), fun k hk => ?_, ?_, ?_, ?_, fun y hy => va_Nw.same rfl rfl (h.2.2.2.2.2.2 y hy)⟩⟩
  · obtain ⟨sa, h1⟩ := h.2.2.1 k hk
    exact ⟨sa, vk_R.warm hW h1⟩
  · obtain ⟨sa, h1⟩ := h.2.2.1 k hk
    exact ⟨sa, vk_R.same (u := U) (U := U.calling g mk a) rfl h1⟩
  · exact h.2.2.2.1.moved (u := U) (U := U.calling g mk a) (Vm.Alike.refl U.vm)
  · exact h.2.2.2.2.1.moved (u := U) (U := U.calling g mk a) (Vm.Alike.refl U.vm)
  · exact trivial
/-- a method that returns as post says, or throws what pe says, and then has changed nothing of win -/
def g_T (l : Launch) (y : MethodName) (wsc : List Cond) (rm : Room) (D : va_G) (ty : g_T3) (X : g_X) (As : List Value) (win : va_W) (mc ms : Nat) (post : Option Value → va_W → Prop) (pe : String → Prop) : Prop :=
  ∀ sz : Nat, vx_Met l y wsc rm (va_Pc As (fun U => U.heap.size = sz ∧ X (va_A win sz) U ∧ va_P D vwCl win U.heap ∧ va_K D vwCl (g_ty ty) U ∧ va_D (fun _ => True) win)) (fun _ st oc t => (∃ v w, oc = .returned v ∧ post v w ∧ va_P D vwCl w t.heap ∧ va_D (va_A win sz) w) ∧ va_F (va_A win sz) st t) (fun E st t => pe E ∧ va_P D vwCl win t.heap ∧ va_D (va_A win sz) win ∧ va_F (va_A win sz) st t) mc ms (va_A win sz)
abbrev x_Th (pe : String → Prop) (X : g_X) (cc : ByteArray) (own : String) (Ts : List Cond) (p : Program) (l : Launch) (e : Env) (R : Room) (A : Nat → Prop) (D : va_G) (s : State) (m : MethodId) (args : Array Value) (below : List Frame) (meth : Method) (c : Code) (Q : State → Prop) (nL : Nat) (win : va_W) : Prop :=
  ∀ (kt ks pc ik i1 i2 : Nat) (lv : g_Lv) (rest : List Value), kt < 3 → ks < 10 → pe (x_T kt).2 → Ts[i1]? = some (.classLink own ik (x_T kt).2) → Ts[i2]? = some (.initialized (x_T kt).2) → (∀ w ∈ (vx_atS RX5 (x_T kt).1 (x_T kt).2 x_N).filter goodWord, w ∈ Ts) → decode cc pc = .ok (.new ik, 3) → decode cc (pc + 3) = .ok (.dup, 1) → decode cc (pc + 4) = .ok (.ldc (x_S ks).1, 2) → decode cc (pc + 6) = .ok (.invokespecial (x_T kt).1, 3) → decode cc (pc + 9) = .ok (.athrow, 1) → rest = [] →
    gG (g_IU A D s) p l e R s m args below meth c Q nL 0 0 pc lv rest win
theorem x_at0 : vx_atS RX5 (x_T 0).1 (x_T 0).2 x_N = vx_atS RX5 45 "java/lang/IndexOutOfBoundsException" ["java/lang/RuntimeException", "java/lang/Exception"] := rfl
theorem x_at1 : vx_atS RX5 (x_T 1).1 (x_T 1).2 x_N = vx_atS RX5 60 "java/lang/IllegalArgumentException" ["java/lang/RuntimeException", "java/lang/Exception"] := rfl
theorem x_at2 : vx_atS RX5 (x_T 2).1 (x_T 2).2 x_N = vx_atS RX5 97 "java/lang/IllegalStateException" ["java/lang/RuntimeException", "java/lang/Exception"] := rfl
theorem x_ot : ∀ k, k < 3 → Bundle.fit (x_T k).2 = true ∧ (vx_atS RX5 (x_T k).1 (x_T k).2 x_N).all vx_ot = true ∧ ∀ w ∈ (vx_atS RX5 (x_T k).1 (x_T k).2 x_N).filter (fun w => !goodWord w), w ∈ Cond.castable (x_T k).2 (x_T k).2 :: x_De.map (fun y => Cond.declares y) := by decide +kernel
theorem x_fitN : ∀ n ∈ x_N, Bundle.fit n = true := by decide +kernel
theorem g_ofTi {l : Launch} {y : MethodName} {wsc wsc' : List Cond} {rm : Room} {cc : ByteArray} {nL mc ms : Nat} {As : List Value} {win : va_W} {D : va_G} {ty : g_T3} {pst : Int32 → va_W → Prop} {pe : String → Prop} (hfl : l.stackTraces = false) (hy : plainName y.cls = true) (hcl : y.cls = RX5) (hw : wsc = Cond.code y cc nL (some .int) :: wsc') (hlen : (lg_sl As).length ≤ nL) (hrm : 5 < rm.frames ∧ 82 ≤ rm.locals ∧ 1 ≤ rm.cells ∧ 6 ≤ rm.slots ∧ 1 ≤ mc ∧ 6 ≤ ms)
    (k : ∀ (p : Program) (e : Env) (s : State) (m : MethodId) (args : Array Value) (below : List Frame) (meth : Method) (c : Code) (Q : State → Prop) (A : Nat → Prop), g_Cx (g_IU A D s) p s m args c cc nL A D ty RX5 wsc → (∀ q, s.heap.size ≤ q → A q) → (g_Xok g_XT ∧ g_XT A s) → meth.name = y.name →
      x_Th pe g_XT cc RX5 wsc p l e rm A D s m args below meth c Q nL win →
      (∀ (r : Int32) (cells slots pc : Nat) (lv : g_Lv) (w : va_W) , decode cc pc = .ok (.ireturn, 1) → pst r w → cells ≤ mc → slots ≤ ms → gG (g_IU A D s) p l e rm s m args below meth c Q nL cells slots pc lv [.int r] w) →
      gG (g_IU A D s) p l e rm s m args below meth c Q nL 0 0 0 (lv_args 0 As) [] win) : g_T l y wsc rm D ty g_XT As win mc ms (g_ui pst) pe := by
  intro sz
  refine vx_ofW (cc := cc) (maxL := nL) (ret := some .int) hy hw ?_
  intro p e s m args below meth c s₁ B hml htab hv
  obtain ⟨rfl, hsz, hx0, hP, hK, hD0⟩ := hv
  subst hsz
  have hb := B.bytes
  have hr := B.returns
  have hlocks := B.notSynchronized
  have hl := lv_entry As (n := nL) hlen
  have hown : s.vm.findClass RX5 = some m.cls := by rw [← hcl]; exact findClass_of_methodNamed B.named
  have hts : ∀ w ∈ wsc, w.before _ s = true := atoms_spec (ws := wsc) B.pre
  rw [lg_entry_eq]
  refine k p e s m _ below meth c _ (va_A win s.heap.size) ⟨B.exec, hb, hml, hown, hts, hK, fun w H locs h => ⟨h.1, h.2.2⟩⟩ (fun q h => Or.inr h) ⟨g_XT_ok, hx0⟩ (name_of_methodNamed B.named B.method).1 ?_ (fun r cells slots pc lv w hd hp h1 h2 H locs ls hI hl9 => ?_) s.heap [] _ ⟨hP, hD0.self, va_S.rf⟩ hl
  · intro kt ks pc ik i1 i2 lv rest hkt hks hpe hi1 hi2 hin d0 d3 d4 d6 d9 hrest H locs ls hI hl9
    subst hrest
    obtain ⟨sa, hstr⟩ := hx0.2.2.1 ks hks
    obtain ⟨o1, o2, o3⟩ := x_ot kt hkt
    have hk1 := hts _ (List.mem_of_getElem? hi1)
    have hk2 := hts _ (List.mem_of_getElem? hi2)
    refine vx_throwS (own := RX5) (cls := (x_T kt).2) (text := (x_S ks).2) (names := x_N) (ik := ik) (is := (x_S ks).1) (ic := (x_T kt).1) (mc := mc) (ms := ms) (sa := sa) (A := va_A win s.heap.size) B.exec hb hfl hown o1 x_fitN hk1 hk2 hstr (vx_hat (fun w hw => hts w (hin w hw)) o3 (vx_c (va_Nw.use rfl (hx0.2.1 kt hkt)) (fun w hw => by obtain ⟨y, hy, rfl⟩ := List.mem_map.mp hw; exact va_Nw.use rfl (hx0.2.2.2.2.2.2 y hy)))) ?_ hx0.2.2.2.1 hx0.2.2.2.2.1 hI.2.2 (hl9.1.trans hml.symm) d0 d3 d4 d6 d9 (fun x hx => (htab x hx).elim) (Nat.lt_of_lt_of_le (by decide) hrm.1) (Nat.le_trans (by decide) hrm.2.1) (by have := hrm.2.2.1; exact Nat.le_trans (by decide) this) (by have := hrm.2.2.2.1; exact Nat.le_trans (by decide) this) hlocks (fun t ht hs0 hk => ⟨hpe, hI.1.kept (fun k q hq => hk _ (hI.1 k q hq).lt), hD0.self, Nat.le_trans hI.2.2.1 hs0, fun q h1 h2 => (hk q (Nat.lt_of_lt_of_le h1 hI.2.2.1)).trans (hI.2.2.2.1 q h1 h2)⟩) hI.2.2.2.2 hrm.2.2.2.2.1 hrm.2.2.2.2.2
    intro w hw
    rcases List.mem_cons.mp hw with q | q
    · rw [q]; rfl
    · rcases List.mem_cons.mp q with q2 | q2
      · rw [q2]; rfl
      · exact List.all_eq_true.mp o2 w q2
  · refine vx_ret ?_
    refine W.widen h1 h2 ?_
    exact W.iret (v := r) B.exec hb hr (fun t ht hW => ⟨⟨_, _, rfl, ⟨r, rfl, hp⟩, by rw [ht]; exact hI.1, hI.2.1⟩, hI.2.2.F ht⟩) hI.2.2.2.2 hd hlocks
theorem g_ofTl {l : Launch} {y : MethodName} {wsc wsc' : List Cond} {rm : Room} {cc : ByteArray} {nL mc ms : Nat} {As : List Value} {win : va_W} {D : va_G} {ty : g_T3} {pst : Int64 → va_W → Prop} {pe : String → Prop} (hfl : l.stackTraces = false) (hy : plainName y.cls = true) (hcl : y.cls = RX5) (hw : wsc = Cond.code y cc nL (some .long) :: wsc') (hlen : (lg_sl As).length ≤ nL) (hrm : 5 < rm.frames ∧ 82 ≤ rm.locals ∧ 1 ≤ rm.cells ∧ 6 ≤ rm.slots ∧ 1 ≤ mc ∧ 6 ≤ ms)
    (k : ∀ (p : Program) (e : Env) (s : State) (m : MethodId) (args : Array Value) (below : List Frame) (meth : Method) (c : Code) (Q : State → Prop) (A : Nat → Prop), g_Cx (g_IU A D s) p s m args c cc nL A D ty RX5 wsc → (∀ q, s.heap.size ≤ q → A q) → (g_Xok g_XT ∧ g_XT A s) → meth.name = y.name →
      x_Th pe g_XT cc RX5 wsc p l e rm A D s m args below meth c Q nL win →
      (∀ (r : Int64) (cells slots pc : Nat) (lv : g_Lv) (w : va_W) , decode cc pc = .ok (.lreturn, 1) → pst r w → cells ≤ mc → slots ≤ ms → gG (g_IU A D s) p l e rm s m args below meth c Q nL cells slots pc lv [.long r] w) →
      gG (g_IU A D s) p l e rm s m args below meth c Q nL 0 0 0 (lv_args 0 As) [] win) : g_T l y wsc rm D ty g_XT As win mc ms (g_ul pst) pe := by
  intro sz
  refine vx_ofW (cc := cc) (maxL := nL) (ret := some .long) hy hw ?_
  intro p e s m args below meth c s₁ B hml htab hv
  obtain ⟨rfl, hsz, hx0, hP, hK, hD0⟩ := hv
  subst hsz
  have hb := B.bytes
  have hr := B.returns
  have hlocks := B.notSynchronized
  have hl := lv_entry As (n := nL) hlen
  have hown : s.vm.findClass RX5 = some m.cls := by rw [← hcl]; exact findClass_of_methodNamed B.named
  have hts : ∀ w ∈ wsc, w.before _ s = true := atoms_spec (ws := wsc) B.pre
  rw [lg_entry_eq]
  refine k p e s m _ below meth c _ (va_A win s.heap.size) ⟨B.exec, hb, hml, hown, hts, hK, fun w H locs h => ⟨h.1, h.2.2⟩⟩ (fun q h => Or.inr h) ⟨g_XT_ok, hx0⟩ (name_of_methodNamed B.named B.method).1 ?_ (fun r cells slots pc lv w hd hp h1 h2 H locs ls hI hl9 => ?_) s.heap [] _ ⟨hP, hD0.self, va_S.rf⟩ hl
  · intro kt ks pc ik i1 i2 lv rest hkt hks hpe hi1 hi2 hin d0 d3 d4 d6 d9 hrest H locs ls hI hl9
    subst hrest
    obtain ⟨sa, hstr⟩ := hx0.2.2.1 ks hks
    obtain ⟨o1, o2, o3⟩ := x_ot kt hkt
    have hk1 := hts _ (List.mem_of_getElem? hi1)
    have hk2 := hts _ (List.mem_of_getElem? hi2)
    refine vx_throwS (own := RX5) (cls := (x_T kt).2) (text := (x_S ks).2) (names := x_N) (ik := ik) (is := (x_S ks).1) (ic := (x_T kt).1) (mc := mc) (ms := ms) (sa := sa) (A := va_A win s.heap.size) B.exec hb hfl hown o1 x_fitN hk1 hk2 hstr (vx_hat (fun w hw => hts w (hin w hw)) o3 (vx_c (va_Nw.use rfl (hx0.2.1 kt hkt)) (fun w hw => by obtain ⟨y, hy, rfl⟩ := List.mem_map.mp hw; exact va_Nw.use rfl (hx0.2.2.2.2.2.2 y hy)))) ?_ hx0.2.2.2.1 hx0.2.2.2.2.1 hI.2.2 (hl9.1.trans hml.symm) d0 d3 d4 d6 d9 (fun x hx => (htab x hx).elim) (Nat.lt_of_lt_of_le (by decide) hrm.1) (Nat.le_trans (by decide) hrm.2.1) (by have := hrm.2.2.1; exact Nat.le_trans (by decide) this) (by have := hrm.2.2.2.1; exact Nat.le_trans (by decide) this) hlocks (fun t ht hs0 hk => ⟨hpe, hI.1.kept (fun k q hq => hk _ (hI.1 k q hq).lt), hD0.self, Nat.le_trans hI.2.2.1 hs0, fun q h1 h2 => (hk q (Nat.lt_of_lt_of_le h1 hI.2.2.1)).trans (hI.2.2.2.1 q h1 h2)⟩) hI.2.2.2.2 hrm.2.2.2.2.1 hrm.2.2.2.2.2
    intro w hw
    rcases List.mem_cons.mp hw with q | q
    · rw [q]; rfl
    · rcases List.mem_cons.mp q with q2 | q2
      · rw [q2]; rfl
      · exact List.all_eq_true.mp o2 w q2
  · refine vx_ret ?_
    refine W.widen h1 h2 ?_
    exact W.lret (v := r) B.exec hb hr (fun t ht hW => ⟨⟨_, _, rfl, ⟨r, rfl, hp⟩, by rw [ht]; exact hI.1, hI.2.1⟩, hI.2.2.F ht⟩) hI.2.2.2.2 hd hlocks
theorem g_ofTz {l : Launch} {y : MethodName} {wsc wsc' : List Cond} {rm : Room} {cc : ByteArray} {nL mc ms : Nat} {As : List Value} {win : va_W} {D : va_G} {ty : g_T3} {pst : Int32 → va_W → Prop} {pe : String → Prop} (hfl : l.stackTraces = false) (hy : plainName y.cls = true) (hcl : y.cls = RX5) (hw : wsc = Cond.code y cc nL (some .boolean) :: wsc') (hlen : (lg_sl As).length ≤ nL) (hrm : 5 < rm.frames ∧ 82 ≤ rm.locals ∧ 1 ≤ rm.cells ∧ 6 ≤ rm.slots ∧ 1 ≤ mc ∧ 6 ≤ ms)
    (k : ∀ (p : Program) (e : Env) (s : State) (m : MethodId) (args : Array Value) (below : List Frame) (meth : Method) (c : Code) (Q : State → Prop) (A : Nat → Prop), g_Cx (g_IU A D s) p s m args c cc nL A D ty RX5 wsc → (∀ q, s.heap.size ≤ q → A q) → (g_Xok g_XT ∧ g_XT A s) → meth.name = y.name →
      x_Th pe g_XT cc RX5 wsc p l e rm A D s m args below meth c Q nL win →
      (∀ (r : Int32) (cells slots pc : Nat) (lv : g_Lv) (w : va_W) (hz : narrow .boolean (.int r) = .int r) , decode cc pc = .ok (.ireturn, 1) → pst r w → cells ≤ mc → slots ≤ ms → gG (g_IU A D s) p l e rm s m args below meth c Q nL cells slots pc lv [.int r] w) →
      gG (g_IU A D s) p l e rm s m args below meth c Q nL 0 0 0 (lv_args 0 As) [] win) : g_T l y wsc rm D ty g_XT As win mc ms (g_ui pst) pe := by
  intro sz
  refine vx_ofW (cc := cc) (maxL := nL) (ret := some .boolean) hy hw ?_
  intro p e s m args below meth c s₁ B hml htab hv
  obtain ⟨rfl, hsz, hx0, hP, hK, hD0⟩ := hv
  subst hsz
  have hb := B.bytes
  have hr := B.returns
  have hlocks := B.notSynchronized
  have hl := lv_entry As (n := nL) hlen
  have hown : s.vm.findClass RX5 = some m.cls := by rw [← hcl]; exact findClass_of_methodNamed B.named
  have hts : ∀ w ∈ wsc, w.before _ s = true := atoms_spec (ws := wsc) B.pre
  rw [lg_entry_eq]
  refine k p e s m _ below meth c _ (va_A win s.heap.size) ⟨B.exec, hb, hml, hown, hts, hK, fun w H locs h => ⟨h.1, h.2.2⟩⟩ (fun q h => Or.inr h) ⟨g_XT_ok, hx0⟩ (name_of_methodNamed B.named B.method).1 ?_ (fun r cells slots pc lv w hz hd hp h1 h2 H locs ls hI hl9 => ?_) s.heap [] _ ⟨hP, hD0.self, va_S.rf⟩ hl
  · intro kt ks pc ik i1 i2 lv rest hkt hks hpe hi1 hi2 hin d0 d3 d4 d6 d9 hrest H locs ls hI hl9
    subst hrest
    obtain ⟨sa, hstr⟩ := hx0.2.2.1 ks hks
    obtain ⟨o1, o2, o3⟩ := x_ot kt hkt
    have hk1 := hts _ (List.mem_of_getElem? hi1)
    have hk2 := hts _ (List.mem_of_getElem? hi2)
    refine vx_throwS (own := RX5) (cls := (x_T kt).2) (text := (x_S ks).2) (names := x_N) (ik := ik) (is := (x_S ks).1) (ic := (x_T kt).1) (mc := mc) (ms := ms) (sa := sa) (A := va_A win s.heap.size) B.exec hb hfl hown o1 x_fitN hk1 hk2 hstr (vx_hat (fun w hw => hts w (hin w hw)) o3 (vx_c (va_Nw.use rfl (hx0.2.1 kt hkt)) (fun w hw => by obtain ⟨y, hy, rfl⟩ := List.mem_map.mp hw; exact va_Nw.use rfl (hx0.2.2.2.2.2.2 y hy)))) ?_ hx0.2.2.2.1 hx0.2.2.2.2.1 hI.2.2 (hl9.1.trans hml.symm) d0 d3 d4 d6 d9 (fun x hx => (htab x hx).elim) (Nat.lt_of_lt_of_le (by decide) hrm.1) (Nat.le_trans (by decide) hrm.2.1) (by have := hrm.2.2.1; exact Nat.le_trans (by decide) this) (by have := hrm.2.2.2.1; exact Nat.le_trans (by decide) this) hlocks (fun t ht hs0 hk => ⟨hpe, hI.1.kept (fun k q hq => hk _ (hI.1 k q hq).lt), hD0.self, Nat.le_trans hI.2.2.1 hs0, fun q h1 h2 => (hk q (Nat.lt_of_lt_of_le h1 hI.2.2.1)).trans (hI.2.2.2.1 q h1 h2)⟩) hI.2.2.2.2 hrm.2.2.2.2.1 hrm.2.2.2.2.2
    intro w hw
    rcases List.mem_cons.mp hw with q | q
    · rw [q]; rfl
    · rcases List.mem_cons.mp q with q2 | q2
      · rw [q2]; rfl
      · exact List.all_eq_true.mp o2 w q2
  · refine vx_ret ?_
    refine W.widen h1 h2 ?_
    exact W.zret (v := r) B.exec hb hr hz (fun t ht hW => ⟨⟨_, _, rfl, ⟨r, rfl, hp⟩, by rw [ht]; exact hI.1, hI.2.1⟩, hI.2.2.F ht⟩) hI.2.2.2.2 hd hlocks

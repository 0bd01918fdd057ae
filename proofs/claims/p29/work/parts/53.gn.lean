/-! new cells; Object.<init>; a content told anew -/
section GN
variable {I : g_I} {p : Program} {l : Launch} {e : Env} {R : Room} {s : State} {m : MethodId} {args : Array Value} {below : List Frame} {meth : Method} {c : Code} {Q : State → Prop} {nL cells slots pc : Nat} {lv lv' : g_Lv} {rest st0 : List Value} {ws ws' : va_W} {cc : ByteArray} {A : Nat → Prop} {D : va_G} {ty : g_T3} {own : String} {Ts : List Cond}
variable {X : g_X} {y : MethodName} {wsc wsc' : List Cond} {rm : Room} {bytes : ByteArray} {maxL index mc ms : Nat} {ret : Option FieldType} {As : List Value} {win wr : va_W} {post : Option Value → Prop} {postU : Option Value → va_W → Prop}
theorem g_obj {a : Nat} (C : g_Cx I p s m args c cc nL A D ty own Ts) (i1 : Nat) (h1 : Ts[i1]? = some (.methodLink own index objectInit)) (i2 : Nat) (h2 : Ts[i2]? = some (.instanceMethod objectInit)) (i3 : Nat) (h3 : Ts[i3]? = some (.code objectInit ⟨#[0xb1]⟩ 1 none)) (hd : decode cc pc = .ok (.invokespecial index, 3)) (hf : 1 ≤ R.frames) (hrest : (rest.map fun v => v.category).sum ≤ 8) (hlo : 20 ≤ R.locals) (k : gG I p l e R s m args below meth c Q nL cells slots (pc + 3) lv rest ws) : gG I p l e R s m args below meth c Q nL cells slots pc lv (.ref a :: rest) ws := fun H locs ls hI hl =>
  W.objInit C.1 C.2.1 C.2.2.2.1 (C.2.2.2.2.1 _ (List.mem_of_getElem? h1)) (C.2.2.2.2.1 _ (List.mem_of_getElem? h2)) (C.2.2.2.2.1 _ (List.mem_of_getElem? h3)) rfl (hl.1.trans C.2.2.1.symm) rfl hd hf (by show 2 * 0 + (rest.map fun v => v.category).sum + 12 ≤ R.locals; omega) (k H locs ls hI hl)
theorem g_newaI (C : g_Cx (g_IU A D s) p s m args c cc nL A D ty own Ts) (hA : ∀ q, s.heap.size ≤ q → A q) {n : Nat} {f : Nat → Int32} (i0 : Nat) (h0 : Ts[i0]? = some (.arrayClass .int)) (hf : ∀ j, f j = 0) (hn : n ≤ 60000) (hcells : cells + 1 ≤ R.cells) (hslots : slots + n ≤ R.slots) (hd : decode cc pc = .ok (.newarray .int, 2)) (k : ∀ q : Nat, gG (g_IU A D s) p l e R s m args below meth c Q nL (cells + 1) (slots + n) (pc + 2) lv (.ref q :: rest) (ws ++ [(q, .inl (ty.1, n, .inl f))])) : gG (g_IU A D s) p l e R s m args below meth c Q nL cells slots pc lv (.int (nI n) :: rest) ws := fun H locs ls hI hl =>
  va_newa C.1 C.2.1 (atype := .int) (C.2.2.2.2.1 _ (List.mem_of_getElem? h0)) (ty := .int) rfl C.2.2.2.2.2.1 hI.1 hI.2.1 hI.2.2 hA (a0 := (n, .inl f)) (fun cA => by show arrV cA n (fun j => .int (f j)) = arrV cA n (fun _ => .int 0); rw [show f = fun _ => 0 from funext hf]) (by rw [Int32.lt_iff_toInt_lt, nI_toInt (by omega)]; show ¬ _ < (0 : Int); omega) (nI_clamp (by omega)) (by show n * 4 ≤ 536870912; omega) hcells hslots hd (fun q cA H1 hK hP hD hS => by
    have e1 : s.vm.findClass _ = some cA := (hK.2 3 (cA, .int) rfl).2
    have e2 : s.vm.findClass _ = some ty.1 := (hK.2 0 (ty.1, .int) rfl).2
    obtain rfl : cA = ty.1 := Option.some.inj (e1.symm.trans e2)
    exact k q H1 locs ls ⟨hP, hD, hS⟩ hl)
theorem g_newaJ (C : g_Cx (g_IU A D s) p s m args c cc nL A D ty own Ts) (hA : ∀ q, s.heap.size ≤ q → A q) {n : Nat} {f : Nat → Int64} (i0 : Nat) (h0 : Ts[i0]? = some (.arrayClass .long)) (hf : ∀ j, f j = 0) (hn : n ≤ 60000) (hcells : cells + 1 ≤ R.cells) (hslots : slots + n ≤ R.slots) (hd : decode cc pc = .ok (.newarray .long, 2)) (k : ∀ q : Nat, gG (g_IU A D s) p l e R s m args below meth c Q nL (cells + 1) (slots + n) (pc + 2) lv (.ref q :: rest) (ws ++ [(q, .inl (ty.2.1, n, .inr (.inl f)))])) : gG (g_IU A D s) p l e R s m args below meth c Q nL cells slots pc lv (.int (nI n) :: rest) ws := fun H locs ls hI hl =>
  va_newa C.1 C.2.1 (atype := .long) (C.2.2.2.2.1 _ (List.mem_of_getElem? h0)) (ty := .long) rfl C.2.2.2.2.2.1 hI.1 hI.2.1 hI.2.2 hA (a0 := (n, .inr (.inl f))) (fun cA => by show arrV cA n (fun j => .long (f j)) = arrV cA n (fun _ => .long 0); rw [show f = fun _ => 0 from funext hf]) (by rw [Int32.lt_iff_toInt_lt, nI_toInt (by omega)]; show ¬ _ < (0 : Int); omega) (nI_clamp (by omega)) (by show n * 8 ≤ 536870912; omega) hcells hslots hd (fun q cA H1 hK hP hD hS => by
    have e1 : s.vm.findClass _ = some cA := (hK.2 3 (cA, .long) rfl).2
    have e2 : s.vm.findClass _ = some ty.2.1 := (hK.2 1 (ty.2.1, .long) rfl).2
    obtain rfl : cA = ty.2.1 := Option.some.inj (e1.symm.trans e2)
    exact k q H1 locs ls ⟨hP, hD, hS⟩ hl)
theorem g_newaZ (C : g_Cx (g_IU A D s) p s m args c cc nL A D ty own Ts) (hA : ∀ q, s.heap.size ≤ q → A q) {n : Nat} {f : Nat → Int32} (i0 : Nat) (h0 : Ts[i0]? = some (.arrayClass .boolean)) (hf : ∀ j, f j = 0) (hn : n ≤ 60000) (hcells : cells + 1 ≤ R.cells) (hslots : slots + n ≤ R.slots) (hd : decode cc pc = .ok (.newarray .boolean, 2)) (k : ∀ q : Nat, gG (g_IU A D s) p l e R s m args below meth c Q nL (cells + 1) (slots + n) (pc + 2) lv (.ref q :: rest) (ws ++ [(q, .inl (ty.2.2, n, .inl f))])) : gG (g_IU A D s) p l e R s m args below meth c Q nL cells slots pc lv (.int (nI n) :: rest) ws := fun H locs ls hI hl =>
  va_newa C.1 C.2.1 (atype := .boolean) (C.2.2.2.2.1 _ (List.mem_of_getElem? h0)) (ty := .boolean) rfl C.2.2.2.2.2.1 hI.1 hI.2.1 hI.2.2 hA (a0 := (n, .inl f)) (fun cA => by show arrV cA n (fun j => .int (f j)) = arrV cA n (fun _ => .int 0); rw [show f = fun _ => 0 from funext hf]) (by rw [Int32.lt_iff_toInt_lt, nI_toInt (by omega)]; show ¬ _ < (0 : Int); omega) (nI_clamp (by omega)) (by show n * 1 ≤ 536870912; omega) hcells hslots hd (fun q cA H1 hK hP hD hS => by
    have e1 : s.vm.findClass _ = some cA := (hK.2 3 (cA, .boolean) rfl).2
    have e2 : s.vm.findClass _ = some ty.2.2 := (hK.2 2 (ty.2.2, .boolean) rfl).2
    obtain rfl : cA = ty.2.2 := Option.some.inj (e1.symm.trans e2)
    exact k q H1 locs ls ⟨hP, hD, hS⟩ hl)
theorem g_new (C : g_Cx (g_IU A D s) p s m args c cc nL A D ty own Ts) (hA : ∀ q, s.heap.size ≤ q → A q) {Cn : String} {T : u_T} {N ci : Nat} (hin : ∀ w ∈ u_ws Cn T N, w ∈ Ts) (ty0 : Nat → FieldType) (hty : ∀ k, k < N → parseFieldDescriptor (T k).2.2.1 = some (ty0 k)) (i1 : Nat) (h1 : Ts[i1]? = some (.classLink own index Cn)) (i2 : Nat) (h2 : Ts[i2]? = some (.instantiable Cn N)) (i3 : Nat) (h3 : Ts[i3]? = some (.initialized Cn)) (hc : vwCl[ci]? = some (Cn, T, N)) {fs : List Value} (hfs : ∀ j, j < N → defaultValue (ty0 j) = vp_V fs j) (hcells : cells + 1 ≤ R.cells) (hslots : slots + N ≤ R.slots) (hd : decode cc pc = .ok (.new index, 3)) (k : ∀ q : Nat, gG (g_IU A D s) p l e R s m args below meth c Q nL (cells + 1) (slots + N) (pc + 3) lv (.ref q :: rest) (ws ++ [(q, .inr (ci, fs))])) : gG (g_IU A D s) p l e R s m args below meth c Q nL cells slots pc lv rest ws := fun H locs ls hI hl =>
  va_new C.1 C.2.1 C.2.2.2.2.1 hin ty0 hty C.2.2.2.1 (C.2.2.2.2.1 _ (List.mem_of_getElem? h1)) (C.2.2.2.2.1 _ (List.mem_of_getElem? h2)) (C.2.2.2.2.1 _ (List.mem_of_getElem? h3)) C.2.2.2.2.2.1 hI.1 hI.2.1 hI.2.2 hA hc hfs hcells hslots hd (fun q H1 hP hD hS => k q H1 locs ls ⟨hP, hD, hS⟩ hl)
theorem va_ct {cA : ClassId} {n : Nat} {f f' : Nat → Int32} (h : ∀ i, i < n → f i = f' i) : vp_cell cA (n, .inl f) = vp_cell cA (n, .inl f') := by
  show arrV cA n (fun j => .int (f j)) = arrV cA n (fun j => .int (f' j))
  unfold arrV
  congr 1
  apply Array.ext_getElem?
  intro i
  by_cases q : i < n
  · simp [q, h i q]
  · simp [q]
theorem g_ct {a : Nat} {cA : ClassId} {n : Nat} {f f' : Nat → Int32} (q0 : Nat) (h0 : ws[q0]? = some (a, .inl (cA, n, .inl f))) (he : ∀ i, i < n → f i = f' i) (hw : ws.set q0 (a, .inl (cA, n, .inl f')) = ws') (k : gG (g_IU A D s) p l e R s m args below meth c Q nL cells slots pc lv rest ws') : gG (g_IU A D s) p l e R s m args below meth c Q nL cells slots pc lv rest ws := fun H locs ls hI hl => by
  subst hw
  refine k H locs ls ⟨fun i q hq => ?_, hI.2.1.set h0, hI.2.2⟩ hl
  by_cases z : i = q0
  · subst z
    have hlt : i < ws.length := (List.getElem?_eq_some_iff.mp h0).1
    rw [List.getElem?_set_self hlt] at hq
    cases hq
    have h9 := hI.1 i _ h0
    show H[a]? = some (vp_cell cA (n, .inl f'))
    rw [← va_ct he]
    exact h9
  · rw [List.getElem?_set_ne (fun y => z y.symm)] at hq
    exact hI.1 i q hq
end GN
theorem zB_lt {op : Nat} : upd (zB (fun j => decide (j < op))) op (vp_nar .boolean (nI 1)) = zB (fun j => decide (j < op + 1)) := by
  rw [show (nI 1 : Int32) = nI (true).toNat from rfl, zB_upd]
  funext j
  unfold zB va_up
  congr 2
  by_cases q : j = op
  · rw [if_pos q]; exact (decide_eq_true (by omega)).symm
  · rw [if_neg q]
    show decide (j < op) = decide (j < op + 1)
    by_cases z : j < op
    · rw [decide_eq_true z, decide_eq_true (show j < op + 1 by omega)]
    · rw [decide_eq_false z, decide_eq_false (show ¬ j < op + 1 by omega)]

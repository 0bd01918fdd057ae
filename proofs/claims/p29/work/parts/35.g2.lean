section GC
variable {I : g_I} {p : Program} {l : Launch} {e : Env} {R : Room} {s : State} {m : MethodId} {args : Array Value} {below : List Frame} {meth : Method} {c : Code} {Q : State → Prop} {nL cells slots pc : Nat} {lv lv' : g_Lv} {rest st0 : List Value} {ws ws' : va_W} {cc : ByteArray} {A : Nat → Prop} {D : va_G} {ty : g_T3} {own : String} {Ts : List Cond}
variable {X : g_X} {y : MethodName} {wsc wsc' : List Cond} {rm : Room} {bytes : ByteArray} {maxL index mc ms : Nat} {ret : Option FieldType} {As : List Value} {win wr : va_W} {post : Option Value → Prop} {postU : Option Value → va_W → Prop}
variable {C0 : Prop}
theorem g_pop2 (C : g_Cx I p s m args c cc nL A D ty own Ts) {va : Value} (hd : decode cc pc = .ok (.pop2, 1)) (ha : va.category = 2) (k : gG I p l e R s m args below meth c Q nL cells slots (pc + 1) lv rest ws) : gG I p l e R s m args below meth c Q nL cells slots pc lv (va :: rest) ws := fun H locs ls hI hl => lv_pop2_2 C.1 C.2.1 hd ha (k H locs ls hI hl)
theorem g_lconst1 (C : g_Cx I p s m args c cc nL A D ty own Ts) {v : Int64} {n : Fin 2} (hd : decode cc pc = .ok (.lconst n, 1)) (hv : Int64.ofNat (n : Nat) = v) (k : gG I p l e R s m args below meth c Q nL cells slots (pc + 1) lv (.long v :: rest) ws) : gG I p l e R s m args below meth c Q nL cells slots pc lv rest ws := fun H locs ls hI hl => lv_lconst C.1 C.2.1 hd hv (k H locs ls hI hl)
end GC

set_option maxHeartbeats 4000000 in
set_option maxRecDepth 100000 in
theorem lc_setPrice {p : Program} {e : Env} {s : State} {m : MethodId} {args : Array Value} {below : List Frame} {meth : Method} {c : Code} {Q : State → Prop} {A : Nat → Prop} (l : Launch) (hfl : l.stackTraces = false) (D : va_G) (ty : g_T3) (C : g_Cx (g_IU A D s) p s m args c code 9 A D ty RL wsL_law) (hA : ∀ q, s.heap.size ≤ q → A q) (hX : g_Xok g_XT ∧ g_XT A s) {b L : Nat} {xs : Nat → Int32} (hsx : va_X b L xs s s.heap) (hbl : b < s.heap.size) (hbA : ¬ A b) (hL : L ≤ 3072) (x0 s0 sp sa sc k0 kf ko ka kb kt kl kp p0 py t0 tz n0 np na nc nf nq no nx ny nl nh nb nw nt oa : Nat) (j : Nat) (hj : 6 * j + 6 ≤ L) (p2 : Nat → Nat) (al cs : Nat → Bool) (es : List Ent) (st : Nat → Nat) (fF : Nat → Int64) (oF aF bF tF sF pF : Nat → Int32) (fM : Nat → Int64) (qM oM aM bM lM hM gM : Nat → Int32) (nv : Nat) (pb : Nat → Nat) (tl : Nat) (tb : Nat → Nat) (lf : Int64) (pl er th av wr : Int32) (fo : Nat → Int64) (hp : (∀ k, k < 10 → 1 ≤ p2 k ∧ p2 k ≤ 5) ∧ p2 10 ≤ 5) (hw : rowOk es fF oF aF bF sF) (ht : ∀ j, j < 8 → tF j = nI (st j)) (hmo : modOk es fM qM oM aM bM lM hM) (hI : stI es st) (hnv : nv ≤ 30) (htl : tl ≤ 300) (hb : ∀ i, tb i < 256) (ih1907 : ∀ (p2 : Nat → Nat) (al cs : Nat → Bool) (es : List Ent) (st : Nat → Nat) (fF : Nat → Int64) (oF aF bF tF sF pF : Nat → Int32) (fM : Nat → Int64) (qM oM aM bM lM hM gM : Nat → Int32) (nv : Nat) (pb : Nat → Nat) (tl : Nat) (tb : Nat → Nat) (lf : Int64) (pl er th av wr : Int32) (fo : Nat → Int64) , 0 < 1 → ((∀ k, k < 10 → 1 ≤ p2 k ∧ p2 k ≤ 5) ∧ p2 10 ≤ 5) → (rowOk es fF oF aF bF sF) → (∀ j, j < 8 → tF j = nI (st j)) → (modOk es fM qM oM aM bM lM hM) → (stI es st) → (nv ≤ 30) → (tl ≤ 300) → (∀ i, tb i < 256) → gG (g_IU A D s) p l e room_1 s m args below meth c Q 9 (40 + 2 * (j + 1)) (27000 + 2030 * (j + 1)) 1907 [(4, .int (nI (6 * j))), (0, .ref b), (1, .ref x0), (2, .ref n0), (3, .ref oa)] [] [(x0, .inr (4, [.ref s0, .ref k0, .ref p0, .ref t0])), (s0, .inr (2, [.ref sp, .ref sa, .ref sc])), (sp, .inl (ty.1, 11, .inl (zN p2))), (sa, .inl (ty.2.2, 10, .inl (zB al))), (sc, .inl (ty.2.2, 16, .inl (zB cs))), (k0, .inr (1, [.int (nI es.length), .ref kf, .ref ko, .ref ka, .ref kb, .ref kt, .ref kl, .ref kp])), (kf, .inl (ty.2.1, 2000, .inr (.inl fF))), (ko, .inl (ty.1, 2000, .inl oF)), (ka, .inl (ty.1, 2000, .inl aF)), (kb, .inl (ty.1, 2000, .inl bF)), (kt, .inl (ty.1, 8, .inl tF)), (kl, .inl (ty.1, 4096, .inl sF)), (kp, .inl (ty.1, 13, .inl pF)), (p0, .inr (0, [.int (nI nv), .ref py])), (py, .inl (ty.1, 30, .inl (zN pb))), (t0, .inr (3, [.int (nI tl), .long lf, .ref tz, .int pl, .int er])), (tz, .inl (ty.1, 300, .inl (zN tb))), (n0, .inr (5, [.int th, .ref np, .ref na, .int (nI (p2 10)), .ref nc, .int (nI es.length), .ref nf, .ref nq, .ref no, .ref nx, .ref ny, .ref nl, .ref nh, .ref nb, .ref nw, .int (nI nv), .ref nt, .int (nI tl), .int av, .int wr, .long lf])), (np, .inl (ty.1, 10, .inl (zN p2))), (na, .inl (ty.2.2, 10, .inl (zB al))), (nc, .inl (ty.2.2, 16, .inl (zB cs))), (nf, .inl (ty.2.1, 2000, .inr (.inl fM))), (nq, .inl (ty.1, 2000, .inl qM)), (no, .inl (ty.1, 2000, .inl oM)), (nx, .inl (ty.1, 2000, .inl aM)), (ny, .inl (ty.1, 2000, .inl bM)), (nl, .inl (ty.1, 1024, .inl lM)), (nh, .inl (ty.1, 2000, .inl hM)), (nb, .inl (ty.1, 8, .inl gM)), (nw, .inl (ty.1, 400, .inl (zN pb))), (nt, .inl (ty.1, 300, .inl (zN tb))), (oa, .inl (ty.2.1, 1, .inr (.inl fo)))]) : gG (g_IU A D s) p l e room_1 s m args below meth c Q 9 (40 + 2 * j) (27000 + 2030 * j) 244 [(4, .int (nI (6 * j))), (0, .ref b), (1, .ref x0), (2, .ref n0), (3, .ref oa)] [] [(x0, .inr (4, [.ref s0, .ref k0, .ref p0, .ref t0])), (s0, .inr (2, [.ref sp, .ref sa, .ref sc])), (sp, .inl (ty.1, 11, .inl (zN p2))), (sa, .inl (ty.2.2, 10, .inl (zB al))), (sc, .inl (ty.2.2, 16, .inl (zB cs))), (k0, .inr (1, [.int (nI es.length), .ref kf, .ref ko, .ref ka, .ref kb, .ref kt, .ref kl, .ref kp])), (kf, .inl (ty.2.1, 2000, .inr (.inl fF))), (ko, .inl (ty.1, 2000, .inl oF)), (ka, .inl (ty.1, 2000, .inl aF)), (kb, .inl (ty.1, 2000, .inl bF)), (kt, .inl (ty.1, 8, .inl tF)), (kl, .inl (ty.1, 4096, .inl sF)), (kp, .inl (ty.1, 13, .inl pF)), (p0, .inr (0, [.int (nI nv), .ref py])), (py, .inl (ty.1, 30, .inl (zN pb))), (t0, .inr (3, [.int (nI tl), .long lf, .ref tz, .int pl, .int er])), (tz, .inl (ty.1, 300, .inl (zN tb))), (n0, .inr (5, [.int th, .ref np, .ref na, .int (nI (p2 10)), .ref nc, .int (nI es.length), .ref nf, .ref nq, .ref no, .ref nx, .ref ny, .ref nl, .ref nh, .ref nb, .ref nw, .int (nI nv), .ref nt, .int (nI tl), .int av, .int wr, .long lf])), (np, .inl (ty.1, 10, .inl (zN p2))), (na, .inl (ty.2.2, 10, .inl (zB al))), (nc, .inl (ty.2.2, 16, .inl (zB cs))), (nf, .inl (ty.2.1, 2000, .inr (.inl fM))), (nq, .inl (ty.1, 2000, .inl qM)), (no, .inl (ty.1, 2000, .inl oM)), (nx, .inl (ty.1, 2000, .inl aM)), (ny, .inl (ty.1, 2000, .inl bM)), (nl, .inl (ty.1, 1024, .inl lM)), (nh, .inl (ty.1, 2000, .inl hM)), (nb, .inl (ty.1, 8, .inl gM)), (nw, .inl (ty.1, 400, .inl (zN pb))), (nt, .inl (ty.1, 300, .inl (zN tb))), (oa, .inl (ty.2.1, 1, .inr (.inl fo)))] := by
  have hRc : room_1.cells = 601024 := rfl
  have hRs : room_1.slots = 7293034 := rfl
  have hlen : es.length ≤ 2000 := hI.2.2.2.2
  refine g_aload_n C dL_law_244 2 rfl rfl ?_
  refine g_aload_n C dL_law_245 1 rfl rfl ?_
  refine g_iload C dL_law_246 0 rfl ?_
  refine g_iconst C dL_law_248 (v := (nI 1)) (by decide) ?_
  refine g_iadd C dL_law_249 (v := (nI (6 * j + 1))) (nI_add _ _) ?_
  refine g_sld C hsx hbl hbA hL (i := 6 * j + 1) (by omega) dL_law_250 ?_
  refine g_aload_n C dL_law_251 1 rfl rfl ?_
  refine g_iload C dL_law_252 0 rfl ?_
  refine g_iconst C dL_law_254 (v := (nI 2)) (by decide) ?_
  refine g_iadd C dL_law_255 (v := (nI (6 * j + 2))) (nI_add _ _) ?_
  refine g_sld C hsx hbl hbA hL (i := 6 * j + 2) (by omega) dL_law_256 ?_
  refine g_aload_n C dL_law_257 4 rfl rfl ?_
  refine g_callUW C hX (t_L_setPrice l hfl D ty x0 s0 k0 p0 t0 sp sa sc p2 (xs (6 * j + 1)) (xs (6 * j + 2)) oa fo) rfl gL_law_L_setPrice 4 (by decide +kernel) rfl ⟨rfl, rfl⟩ ⟨Nat.le_of_ble_eq_true rfl, Nat.le_of_ble_eq_true rfl⟩ (rest := []) hA [0, 1, 2, 31] [3, 4, 5, 6, 7, 8, 9, 10, 11, 12, 13, 14, 15, 16, 17, 18, 19, 20, 21, 22, 23, 24, 25, 26, 27, 28, 29, 30] rfl rfl rfl (wr := [(sa, .inl (ty.2.2, 10, .inl (zB al))), (sc, .inl (ty.2.2, 16, .inl (zB cs))), (k0, .inr (1, [.int (nI es.length), .ref kf, .ref ko, .ref ka, .ref kb, .ref kt, .ref kl, .ref kp])), (kf, .inl (ty.2.1, 2000, .inr (.inl fF))), (ko, .inl (ty.1, 2000, .inl oF)), (ka, .inl (ty.1, 2000, .inl aF)), (kb, .inl (ty.1, 2000, .inl bF)), (kt, .inl (ty.1, 8, .inl tF)), (kl, .inl (ty.1, 4096, .inl sF)), (kp, .inl (ty.1, 13, .inl pF)), (p0, .inr (0, [.int (nI nv), .ref py])), (py, .inl (ty.1, 30, .inl (zN pb))), (t0, .inr (3, [.int (nI tl), .long lf, .ref tz, .int pl, .int er])), (tz, .inl (ty.1, 300, .inl (zN tb))), (n0, .inr (5, [.int th, .ref np, .ref na, .int (nI (p2 10)), .ref nc, .int (nI es.length), .ref nf, .ref nq, .ref no, .ref nx, .ref ny, .ref nl, .ref nh, .ref nb, .ref nw, .int (nI nv), .ref nt, .int (nI tl), .int av, .int wr, .long lf])), (np, .inl (ty.1, 10, .inl (zN p2))), (na, .inl (ty.2.2, 10, .inl (zB al))), (nc, .inl (ty.2.2, 16, .inl (zB cs))), (nf, .inl (ty.2.1, 2000, .inr (.inl fM))), (nq, .inl (ty.1, 2000, .inl qM)), (no, .inl (ty.1, 2000, .inl oM)), (nx, .inl (ty.1, 2000, .inl aM)), (ny, .inl (ty.1, 2000, .inl bM)), (nl, .inl (ty.1, 1024, .inl lM)), (nh, .inl (ty.1, 2000, .inl hM)), (nb, .inl (ty.1, 8, .inl gM)), (nw, .inl (ty.1, 400, .inl (zN pb))), (nt, .inl (ty.1, 300, .inl (zN tb)))]) rfl rfl rfl (Nat.le_of_ble_eq_true rfl) dL_law_258 ⟨by rw [hRc]; omega, by rw [hRs]; omega⟩ rfl (g_kui (fun r w hr => ?_))
  rcases hr with ⟨k, u, hk, hok, hvu, hlo, hu, rfl, rfl⟩ | ⟨hbad, rfl, rfl⟩ | ⟨hbad, rfl, rfl⟩
  · skip
    refine g_ws (ws' := [(x0, .inr (4, [.ref s0, .ref k0, .ref p0, .ref t0])), (s0, .inr (2, [.ref sp, .ref sa, .ref sc])), (sp, .inl (ty.1, 11, .inl (zN (va_up p2 k u)))), (sa, .inl (ty.2.2, 10, .inl (zB al))), (sc, .inl (ty.2.2, 16, .inl (zB cs))), (k0, .inr (1, [.int (nI es.length), .ref kf, .ref ko, .ref ka, .ref kb, .ref kt, .ref kl, .ref kp])), (kf, .inl (ty.2.1, 2000, .inr (.inl fF))), (ko, .inl (ty.1, 2000, .inl oF)), (ka, .inl (ty.1, 2000, .inl aF)), (kb, .inl (ty.1, 2000, .inl bF)), (kt, .inl (ty.1, 8, .inl tF)), (kl, .inl (ty.1, 4096, .inl sF)), (kp, .inl (ty.1, 13, .inl pF)), (p0, .inr (0, [.int (nI nv), .ref py])), (py, .inl (ty.1, 30, .inl (zN pb))), (t0, .inr (3, [.int (nI tl), .long lf, .ref tz, .int pl, .int er])), (tz, .inl (ty.1, 300, .inl (zN tb))), (n0, .inr (5, [.int th, .ref np, .ref na, .int (nI (p2 10)), .ref nc, .int (nI es.length), .ref nf, .ref nq, .ref no, .ref nx, .ref ny, .ref nl, .ref nh, .ref nb, .ref nw, .int (nI nv), .ref nt, .int (nI tl), .int av, .int wr, .long lf])), (np, .inl (ty.1, 10, .inl (zN p2))), (na, .inl (ty.2.2, 10, .inl (zB al))), (nc, .inl (ty.2.2, 16, .inl (zB cs))), (nf, .inl (ty.2.1, 2000, .inr (.inl fM))), (nq, .inl (ty.1, 2000, .inl qM)), (no, .inl (ty.1, 2000, .inl oM)), (nx, .inl (ty.1, 2000, .inl aM)), (ny, .inl (ty.1, 2000, .inl bM)), (nl, .inl (ty.1, 1024, .inl lM)), (nh, .inl (ty.1, 2000, .inl hM)), (nb, .inl (ty.1, 8, .inl gM)), (nw, .inl (ty.1, 400, .inl (zN pb))), (nt, .inl (ty.1, 300, .inl (zN tb))), (oa, .inl (ty.2.1, 1, .inr (.inl (vp_updL fo 0 (Int32.toInt64 (nI (p2 k)))))))]) [28, 29, 30, 0, 1, 2, 3, 4, 5, 6, 7, 8, 9, 10, 11, 12, 13, 14, 15, 16, 17, 18, 19, 20, 21, 22, 23, 24, 25, 26, 27, 31] rfl rfl rfl ?_
    refine g_istore C dL_law_261 (by decide) (lv' := [(5, .int (nI 0)), (4, .int (nI (6 * j))), (0, .ref b), (1, .ref x0), (2, .ref n0), (3, .ref oa)]) rfl ?_
    refine g_aload_n C dL_law_263 4 rfl rfl ?_
    refine g_aload_n C dL_law_264 2 rfl rfl ?_
    refine g_iload C dL_law_265 1 rfl ?_
    refine g_iconst C dL_law_267 (v := (nI 1)) (by decide) ?_
    refine g_iadd C dL_law_268 (v := (nI (6 * j + 1))) (nI_add _ _) ?_
    refine g_sld C hsx hbl hbA hL (i := 6 * j + 1) (by omega) dL_law_269 ?_
    refine g_aload_n C dL_law_270 2 rfl rfl ?_
    refine g_iload C dL_law_271 1 rfl ?_
    refine g_iconst C dL_law_273 (v := (nI 2)) (by decide) ?_
    refine g_iadd C dL_law_274 (v := (nI (6 * j + 2))) (nI_add _ _) ?_
    refine g_sld C hsx hbl hbA hL (i := 6 * j + 2) (by omega) dL_law_275 ?_
    refine g_callUV C ⟨g_X0_ok, trivial⟩ (t_X6_setPrice l D ty n0 np na nc nf nq no nx ny nl nh nb nw nt th (nI nv) (nI tl) av wr lf (nI es.length) p2 (xs (6 * j + 1)) (xs (6 * j + 2))) rfl gL_law_X6_setPrice 2 (by decide +kernel) rfl ⟨rfl, rfl⟩ ⟨Nat.le_of_ble_eq_true rfl, Nat.le_of_ble_eq_true rfl⟩ (rest := []) (q0 := 17) rfl rfl hA [17, 18] [0, 1, 2, 3, 4, 5, 6, 7, 8, 9, 10, 11, 12, 13, 14, 15, 16, 19, 20, 21, 22, 23, 24, 25, 26, 27, 28, 29, 30, 31] rfl rfl rfl (wr := [(x0, .inr (4, [.ref s0, .ref k0, .ref p0, .ref t0])), (s0, .inr (2, [.ref sp, .ref sa, .ref sc])), (sp, .inl (ty.1, 11, .inl (zN (va_up p2 k u)))), (sa, .inl (ty.2.2, 10, .inl (zB al))), (sc, .inl (ty.2.2, 16, .inl (zB cs))), (k0, .inr (1, [.int (nI es.length), .ref kf, .ref ko, .ref ka, .ref kb, .ref kt, .ref kl, .ref kp])), (kf, .inl (ty.2.1, 2000, .inr (.inl fF))), (ko, .inl (ty.1, 2000, .inl oF)), (ka, .inl (ty.1, 2000, .inl aF)), (kb, .inl (ty.1, 2000, .inl bF)), (kt, .inl (ty.1, 8, .inl tF)), (kl, .inl (ty.1, 4096, .inl sF)), (kp, .inl (ty.1, 13, .inl pF)), (p0, .inr (0, [.int (nI nv), .ref py])), (py, .inl (ty.1, 30, .inl (zN pb))), (t0, .inr (3, [.int (nI tl), .long lf, .ref tz, .int pl, .int er])), (tz, .inl (ty.1, 300, .inl (zN tb))), (na, .inl (ty.2.2, 10, .inl (zB al))), (nc, .inl (ty.2.2, 16, .inl (zB cs))), (nf, .inl (ty.2.1, 2000, .inr (.inl fM))), (nq, .inl (ty.1, 2000, .inl qM)), (no, .inl (ty.1, 2000, .inl oM)), (nx, .inl (ty.1, 2000, .inl aM)), (ny, .inl (ty.1, 2000, .inl bM)), (nl, .inl (ty.1, 1024, .inl lM)), (nh, .inl (ty.1, 2000, .inl hM)), (nb, .inl (ty.1, 8, .inl gM)), (nw, .inl (ty.1, 400, .inl (zN pb))), (nt, .inl (ty.1, 300, .inl (zN tb))), (oa, .inl (ty.2.1, 1, .inr (.inl (vp_updL fo 0 (Int32.toInt64 (nI (p2 k)))))))]) rfl rfl rfl (Nat.le_of_ble_eq_true rfl) dL_law_276 ⟨by rw [hRc]; omega, by rw [hRs]; omega⟩ rfl (g_kui (fun r w hr => ?_))
    rcases hr with ⟨k2, u2, hk2, hok2, hvu2, hlo2, hu2, rfl, rfl⟩ | ⟨hbad2, rfl, rfl⟩ | ⟨hbad2, rfl, rfl⟩
    · skip
      obtain rfl := nI_ij (by omega) (by omega) (hok.symm.trans hok2)
      obtain rfl := nI_ij (by omega) (by omega) (hvu.symm.trans hvu2)
      refine g_ws (ws' := [(x0, .inr (4, [.ref s0, .ref k0, .ref p0, .ref t0])), (s0, .inr (2, [.ref sp, .ref sa, .ref sc])), (sp, .inl (ty.1, 11, .inl (zN (va_up p2 k u)))), (sa, .inl (ty.2.2, 10, .inl (zB al))), (sc, .inl (ty.2.2, 16, .inl (zB cs))), (k0, .inr (1, [.int (nI es.length), .ref kf, .ref ko, .ref ka, .ref kb, .ref kt, .ref kl, .ref kp])), (kf, .inl (ty.2.1, 2000, .inr (.inl fF))), (ko, .inl (ty.1, 2000, .inl oF)), (ka, .inl (ty.1, 2000, .inl aF)), (kb, .inl (ty.1, 2000, .inl bF)), (kt, .inl (ty.1, 8, .inl tF)), (kl, .inl (ty.1, 4096, .inl sF)), (kp, .inl (ty.1, 13, .inl pF)), (p0, .inr (0, [.int (nI nv), .ref py])), (py, .inl (ty.1, 30, .inl (zN pb))), (t0, .inr (3, [.int (nI tl), .long lf, .ref tz, .int pl, .int er])), (tz, .inl (ty.1, 300, .inl (zN tb))), (n0, .inr (5, [.int (nI 0), .ref np, .ref na, .int (nI ((va_up p2 k u) 10)), .ref nc, .int (nI es.length), .ref nf, .ref nq, .ref no, .ref nx, .ref ny, .ref nl, .ref nh, .ref nb, .ref nw, .int (nI nv), .ref nt, .int (nI tl), .int av, .int wr, .long lf])), (np, .inl (ty.1, 10, .inl (zN (va_up p2 k u)))), (na, .inl (ty.2.2, 10, .inl (zB al))), (nc, .inl (ty.2.2, 16, .inl (zB cs))), (nf, .inl (ty.2.1, 2000, .inr (.inl fM))), (nq, .inl (ty.1, 2000, .inl qM)), (no, .inl (ty.1, 2000, .inl oM)), (nx, .inl (ty.1, 2000, .inl aM)), (ny, .inl (ty.1, 2000, .inl bM)), (nl, .inl (ty.1, 1024, .inl lM)), (nh, .inl (ty.1, 2000, .inl hM)), (nb, .inl (ty.1, 8, .inl gM)), (nw, .inl (ty.1, 400, .inl (zN pb))), (nt, .inl (ty.1, 300, .inl (zN tb))), (oa, .inl (ty.2.1, 1, .inr (.inl (vp_updL fo 0 (Int32.toInt64 (nI (p2 k)))))))]) [0, 1, 2, 3, 4, 5, 6, 7, 8, 9, 10, 11, 12, 13, 14, 15, 16, 30, 31, 17, 18, 19, 20, 21, 22, 23, 24, 25, 26, 27, 28, 29] rfl rfl rfl ?_
      refine g_istore C dL_law_279 (by decide) (lv' := [(6, .int (nI (p2 k))), (5, .int (nI 0)), (4, .int (nI (6 * j))), (0, .ref b), (1, .ref x0), (2, .ref n0), (3, .ref oa)]) rfl ?_
      refine g_aload_n C dL_law_281 5 rfl rfl ?_
      refine g_callPV C ⟨g_X0_ok, trivial⟩ (t_X6_thrown l D ty n0 np na nc nf nq no nx ny nl nh nb nw nt (nI 0) (nI ((va_up p2 k u) 10)) (nI nv) (nI tl) av wr lf (nI es.length)) rfl gL_law_X6_thrown 0 (by decide +kernel) rfl ⟨rfl, rfl⟩ ⟨Nat.le_of_ble_eq_true rfl, Nat.le_of_ble_eq_true rfl⟩ (rest := []) (q0 := 17) rfl rfl [17] rfl (Nat.le_of_ble_eq_true rfl) dL_law_282 ⟨by rw [hRc]; omega, by rw [hRs]; omega⟩ rfl (g_ki (fun r hr => ?_))
      subst hr
      refine g_iload C dL_law_285 1 rfl ?_
      refine g_icmp_eqN C dL_law_287 (tgt := 292) (by decide) (by omega) (by omega) (fun h287 => ?_) (fun h287 => ?_)
      · skip
        refine g_iload C dL_law_292 1 rfl ?_
        refine g_if_neN C dL_law_294 (tgt := 309) (by decide) (by omega) (fun h294 => ?_) (fun h294 => ?_)
        · skip
          exact absurd rfl h294
        · skip
          refine g_aload_n C dL_law_297 6 rfl rfl ?_
          refine g_iconst C dL_law_298 (v := (nI 0)) (by decide) ?_
          refine g_lald C (v := (Int32.toInt64 (nI (p2 k)))) 31 rfl (by omega) (by omega) (pk_uLs) dL_law_299 ?_
          refine g_iload C dL_law_300 0 rfl ?_
          refine g_i2l C dL_law_302 (v := (Int32.toInt64 (nI (p2 k)))) rfl ?_
          refine g_lcmp C dL_law_303 ?_
          refine g_if_eq C dL_law_304 (tgt := 309) (by decide) (fun h304 => ?_) (fun h304 => ?_)
          · skip
            refine g_goto C dL_law_309 (tgt := 1907) (by decide) ?_
            refine g_lv [2, 3, 4, 5, 6] rfl ?_
            refine g_wid (k0 := (40 + 2 * (j + 1))) (n0 := (27000 + 2030 * (j + 1))) (by omega) (by omega) ?_
            exact ih1907 (va_up p2 k u) al cs es st fF oF aF bF tF sF pF fM qM oM aM bM lM hM gM nv pb tl tb lf pl er (nI 0) av wr (vp_updL fo 0 (Int32.toInt64 (nI (p2 k)))) (by omega) (hp_up hp hlo hu) hw ht hmo hI hnv htl hb
          · skip
            exact absurd (lg_eq rfl) h304
      · skip
        exact absurd rfl h287
    · skip
      rw [hok, nI_toInt (by omega)] at hbad2
      omega
    · skip
      obtain ⟨k3, h31, h32, h33⟩ := hbad2
      obtain rfl := nI_ij (by omega) (by omega) (hok.symm.trans h32)
      rw [hvu, nI_toInt (by omega)] at h33
      generalize (if k = 10 then 0 else 1 : Nat) = lo at hlo h33
      omega
  · skip
    refine g_ws (ws' := [(x0, .inr (4, [.ref s0, .ref k0, .ref p0, .ref t0])), (s0, .inr (2, [.ref sp, .ref sa, .ref sc])), (sp, .inl (ty.1, 11, .inl (zN p2))), (sa, .inl (ty.2.2, 10, .inl (zB al))), (sc, .inl (ty.2.2, 16, .inl (zB cs))), (k0, .inr (1, [.int (nI es.length), .ref kf, .ref ko, .ref ka, .ref kb, .ref kt, .ref kl, .ref kp])), (kf, .inl (ty.2.1, 2000, .inr (.inl fF))), (ko, .inl (ty.1, 2000, .inl oF)), (ka, .inl (ty.1, 2000, .inl aF)), (kb, .inl (ty.1, 2000, .inl bF)), (kt, .inl (ty.1, 8, .inl tF)), (kl, .inl (ty.1, 4096, .inl sF)), (kp, .inl (ty.1, 13, .inl pF)), (p0, .inr (0, [.int (nI nv), .ref py])), (py, .inl (ty.1, 30, .inl (zN pb))), (t0, .inr (3, [.int (nI tl), .long lf, .ref tz, .int pl, .int er])), (tz, .inl (ty.1, 300, .inl (zN tb))), (n0, .inr (5, [.int th, .ref np, .ref na, .int (nI (p2 10)), .ref nc, .int (nI es.length), .ref nf, .ref nq, .ref no, .ref nx, .ref ny, .ref nl, .ref nh, .ref nb, .ref nw, .int (nI nv), .ref nt, .int (nI tl), .int av, .int wr, .long lf])), (np, .inl (ty.1, 10, .inl (zN p2))), (na, .inl (ty.2.2, 10, .inl (zB al))), (nc, .inl (ty.2.2, 16, .inl (zB cs))), (nf, .inl (ty.2.1, 2000, .inr (.inl fM))), (nq, .inl (ty.1, 2000, .inl qM)), (no, .inl (ty.1, 2000, .inl oM)), (nx, .inl (ty.1, 2000, .inl aM)), (ny, .inl (ty.1, 2000, .inl bM)), (nl, .inl (ty.1, 1024, .inl lM)), (nh, .inl (ty.1, 2000, .inl hM)), (nb, .inl (ty.1, 8, .inl gM)), (nw, .inl (ty.1, 400, .inl (zN pb))), (nt, .inl (ty.1, 300, .inl (zN tb))), (oa, .inl (ty.2.1, 1, .inr (.inl fo)))]) [28, 29, 30, 0, 1, 2, 3, 4, 5, 6, 7, 8, 9, 10, 11, 12, 13, 14, 15, 16, 17, 18, 19, 20, 21, 22, 23, 24, 25, 26, 27, 31] rfl rfl rfl ?_
    refine g_istore C dL_law_261 (by decide) (lv' := [(5, .int (nI 1)), (4, .int (nI (6 * j))), (0, .ref b), (1, .ref x0), (2, .ref n0), (3, .ref oa)]) rfl ?_
    refine g_aload_n C dL_law_263 4 rfl rfl ?_
    refine g_aload_n C dL_law_264 2 rfl rfl ?_
    refine g_iload C dL_law_265 1 rfl ?_
    refine g_iconst C dL_law_267 (v := (nI 1)) (by decide) ?_
    refine g_iadd C dL_law_268 (v := (nI (6 * j + 1))) (nI_add _ _) ?_
    refine g_sld C hsx hbl hbA hL (i := 6 * j + 1) (by omega) dL_law_269 ?_
    refine g_aload_n C dL_law_270 2 rfl rfl ?_
    refine g_iload C dL_law_271 1 rfl ?_
    refine g_iconst C dL_law_273 (v := (nI 2)) (by decide) ?_
    refine g_iadd C dL_law_274 (v := (nI (6 * j + 2))) (nI_add _ _) ?_
    refine g_sld C hsx hbl hbA hL (i := 6 * j + 2) (by omega) dL_law_275 ?_
    refine g_callUV C ⟨g_X0_ok, trivial⟩ (t_X6_setPrice l D ty n0 np na nc nf nq no nx ny nl nh nb nw nt th (nI nv) (nI tl) av wr lf (nI es.length) p2 (xs (6 * j + 1)) (xs (6 * j + 2))) rfl gL_law_X6_setPrice 2 (by decide +kernel) rfl ⟨rfl, rfl⟩ ⟨Nat.le_of_ble_eq_true rfl, Nat.le_of_ble_eq_true rfl⟩ (rest := []) (q0 := 17) rfl rfl hA [17, 18] [0, 1, 2, 3, 4, 5, 6, 7, 8, 9, 10, 11, 12, 13, 14, 15, 16, 19, 20, 21, 22, 23, 24, 25, 26, 27, 28, 29, 30, 31] rfl rfl rfl (wr := [(x0, .inr (4, [.ref s0, .ref k0, .ref p0, .ref t0])), (s0, .inr (2, [.ref sp, .ref sa, .ref sc])), (sp, .inl (ty.1, 11, .inl (zN p2))), (sa, .inl (ty.2.2, 10, .inl (zB al))), (sc, .inl (ty.2.2, 16, .inl (zB cs))), (k0, .inr (1, [.int (nI es.length), .ref kf, .ref ko, .ref ka, .ref kb, .ref kt, .ref kl, .ref kp])), (kf, .inl (ty.2.1, 2000, .inr (.inl fF))), (ko, .inl (ty.1, 2000, .inl oF)), (ka, .inl (ty.1, 2000, .inl aF)), (kb, .inl (ty.1, 2000, .inl bF)), (kt, .inl (ty.1, 8, .inl tF)), (kl, .inl (ty.1, 4096, .inl sF)), (kp, .inl (ty.1, 13, .inl pF)), (p0, .inr (0, [.int (nI nv), .ref py])), (py, .inl (ty.1, 30, .inl (zN pb))), (t0, .inr (3, [.int (nI tl), .long lf, .ref tz, .int pl, .int er])), (tz, .inl (ty.1, 300, .inl (zN tb))), (na, .inl (ty.2.2, 10, .inl (zB al))), (nc, .inl (ty.2.2, 16, .inl (zB cs))), (nf, .inl (ty.2.1, 2000, .inr (.inl fM))), (nq, .inl (ty.1, 2000, .inl qM)), (no, .inl (ty.1, 2000, .inl oM)), (nx, .inl (ty.1, 2000, .inl aM)), (ny, .inl (ty.1, 2000, .inl bM)), (nl, .inl (ty.1, 1024, .inl lM)), (nh, .inl (ty.1, 2000, .inl hM)), (nb, .inl (ty.1, 8, .inl gM)), (nw, .inl (ty.1, 400, .inl (zN pb))), (nt, .inl (ty.1, 300, .inl (zN tb))), (oa, .inl (ty.2.1, 1, .inr (.inl fo)))]) rfl rfl rfl (Nat.le_of_ble_eq_true rfl) dL_law_276 ⟨by rw [hRc]; omega, by rw [hRs]; omega⟩ rfl (g_kui (fun r w hr => ?_))
    rcases hr with ⟨k2, u2, hk2, hok2, hvu2, hlo2, hu2, rfl, rfl⟩ | ⟨hbad2, rfl, rfl⟩ | ⟨hbad2, rfl, rfl⟩
    · skip
      rw [hok2, nI_toInt (by omega)] at hbad
      omega
    · skip
      refine g_ws (ws' := [(x0, .inr (4, [.ref s0, .ref k0, .ref p0, .ref t0])), (s0, .inr (2, [.ref sp, .ref sa, .ref sc])), (sp, .inl (ty.1, 11, .inl (zN p2))), (sa, .inl (ty.2.2, 10, .inl (zB al))), (sc, .inl (ty.2.2, 16, .inl (zB cs))), (k0, .inr (1, [.int (nI es.length), .ref kf, .ref ko, .ref ka, .ref kb, .ref kt, .ref kl, .ref kp])), (kf, .inl (ty.2.1, 2000, .inr (.inl fF))), (ko, .inl (ty.1, 2000, .inl oF)), (ka, .inl (ty.1, 2000, .inl aF)), (kb, .inl (ty.1, 2000, .inl bF)), (kt, .inl (ty.1, 8, .inl tF)), (kl, .inl (ty.1, 4096, .inl sF)), (kp, .inl (ty.1, 13, .inl pF)), (p0, .inr (0, [.int (nI nv), .ref py])), (py, .inl (ty.1, 30, .inl (zN pb))), (t0, .inr (3, [.int (nI tl), .long lf, .ref tz, .int pl, .int er])), (tz, .inl (ty.1, 300, .inl (zN tb))), (n0, .inr (5, [.int (nI 1), .ref np, .ref na, .int (nI (p2 10)), .ref nc, .int (nI es.length), .ref nf, .ref nq, .ref no, .ref nx, .ref ny, .ref nl, .ref nh, .ref nb, .ref nw, .int (nI nv), .ref nt, .int (nI tl), .int av, .int wr, .long lf])), (np, .inl (ty.1, 10, .inl (zN p2))), (na, .inl (ty.2.2, 10, .inl (zB al))), (nc, .inl (ty.2.2, 16, .inl (zB cs))), (nf, .inl (ty.2.1, 2000, .inr (.inl fM))), (nq, .inl (ty.1, 2000, .inl qM)), (no, .inl (ty.1, 2000, .inl oM)), (nx, .inl (ty.1, 2000, .inl aM)), (ny, .inl (ty.1, 2000, .inl bM)), (nl, .inl (ty.1, 1024, .inl lM)), (nh, .inl (ty.1, 2000, .inl hM)), (nb, .inl (ty.1, 8, .inl gM)), (nw, .inl (ty.1, 400, .inl (zN pb))), (nt, .inl (ty.1, 300, .inl (zN tb))), (oa, .inl (ty.2.1, 1, .inr (.inl fo)))]) [0, 1, 2, 3, 4, 5, 6, 7, 8, 9, 10, 11, 12, 13, 14, 15, 16, 30, 31, 17, 18, 19, 20, 21, 22, 23, 24, 25, 26, 27, 28, 29] rfl rfl rfl ?_
      refine g_istore C dL_law_279 (by decide) (lv' := [(6, .int (nI 0)), (5, .int (nI 1)), (4, .int (nI (6 * j))), (0, .ref b), (1, .ref x0), (2, .ref n0), (3, .ref oa)]) rfl ?_
      refine g_aload_n C dL_law_281 5 rfl rfl ?_
      refine g_callPV C ⟨g_X0_ok, trivial⟩ (t_X6_thrown l D ty n0 np na nc nf nq no nx ny nl nh nb nw nt (nI 1) (nI (p2 10)) (nI nv) (nI tl) av wr lf (nI es.length)) rfl gL_law_X6_thrown 0 (by decide +kernel) rfl ⟨rfl, rfl⟩ ⟨Nat.le_of_ble_eq_true rfl, Nat.le_of_ble_eq_true rfl⟩ (rest := []) (q0 := 17) rfl rfl [17] rfl (Nat.le_of_ble_eq_true rfl) dL_law_282 ⟨by rw [hRc]; omega, by rw [hRs]; omega⟩ rfl (g_ki (fun r hr => ?_))
      subst hr
      refine g_iload C dL_law_285 1 rfl ?_
      refine g_icmp_eqN C dL_law_287 (tgt := 292) (by decide) (by omega) (by omega) (fun h287 => ?_) (fun h287 => ?_)
      · skip
        refine g_iload C dL_law_292 1 rfl ?_
        refine g_if_neN C dL_law_294 (tgt := 309) (by decide) (by omega) (fun h294 => ?_) (fun h294 => ?_)
        · skip
          refine g_goto C dL_law_309 (tgt := 1907) (by decide) ?_
          refine g_lv [2, 3, 4, 5, 6] rfl ?_
          refine g_wid (k0 := (40 + 2 * (j + 1))) (n0 := (27000 + 2030 * (j + 1))) (by omega) (by omega) ?_
          exact ih1907 p2 al cs es st fF oF aF bF tF sF pF fM qM oM aM bM lM hM gM nv pb tl tb lf pl er (nI 1) av wr fo (by omega) hp hw ht hmo hI hnv htl hb
        · skip
          exact absurd h294 (by decide)
      · skip
        exact absurd rfl h287
    · skip
      obtain ⟨k3, h31, h32, h33⟩ := hbad2
      rw [h32, nI_toInt (by omega)] at hbad
      omega
  · skip
    refine g_ws (ws' := [(x0, .inr (4, [.ref s0, .ref k0, .ref p0, .ref t0])), (s0, .inr (2, [.ref sp, .ref sa, .ref sc])), (sp, .inl (ty.1, 11, .inl (zN p2))), (sa, .inl (ty.2.2, 10, .inl (zB al))), (sc, .inl (ty.2.2, 16, .inl (zB cs))), (k0, .inr (1, [.int (nI es.length), .ref kf, .ref ko, .ref ka, .ref kb, .ref kt, .ref kl, .ref kp])), (kf, .inl (ty.2.1, 2000, .inr (.inl fF))), (ko, .inl (ty.1, 2000, .inl oF)), (ka, .inl (ty.1, 2000, .inl aF)), (kb, .inl (ty.1, 2000, .inl bF)), (kt, .inl (ty.1, 8, .inl tF)), (kl, .inl (ty.1, 4096, .inl sF)), (kp, .inl (ty.1, 13, .inl pF)), (p0, .inr (0, [.int (nI nv), .ref py])), (py, .inl (ty.1, 30, .inl (zN pb))), (t0, .inr (3, [.int (nI tl), .long lf, .ref tz, .int pl, .int er])), (tz, .inl (ty.1, 300, .inl (zN tb))), (n0, .inr (5, [.int th, .ref np, .ref na, .int (nI (p2 10)), .ref nc, .int (nI es.length), .ref nf, .ref nq, .ref no, .ref nx, .ref ny, .ref nl, .ref nh, .ref nb, .ref nw, .int (nI nv), .ref nt, .int (nI tl), .int av, .int wr, .long lf])), (np, .inl (ty.1, 10, .inl (zN p2))), (na, .inl (ty.2.2, 10, .inl (zB al))), (nc, .inl (ty.2.2, 16, .inl (zB cs))), (nf, .inl (ty.2.1, 2000, .inr (.inl fM))), (nq, .inl (ty.1, 2000, .inl qM)), (no, .inl (ty.1, 2000, .inl oM)), (nx, .inl (ty.1, 2000, .inl aM)), (ny, .inl (ty.1, 2000, .inl bM)), (nl, .inl (ty.1, 1024, .inl lM)), (nh, .inl (ty.1, 2000, .inl hM)), (nb, .inl (ty.1, 8, .inl gM)), (nw, .inl (ty.1, 400, .inl (zN pb))), (nt, .inl (ty.1, 300, .inl (zN tb))), (oa, .inl (ty.2.1, 1, .inr (.inl fo)))]) [28, 29, 30, 0, 1, 2, 3, 4, 5, 6, 7, 8, 9, 10, 11, 12, 13, 14, 15, 16, 17, 18, 19, 20, 21, 22, 23, 24, 25, 26, 27, 31] rfl rfl rfl ?_
    refine g_istore C dL_law_261 (by decide) (lv' := [(5, .int (nI 2)), (4, .int (nI (6 * j))), (0, .ref b), (1, .ref x0), (2, .ref n0), (3, .ref oa)]) rfl ?_
    refine g_aload_n C dL_law_263 4 rfl rfl ?_
    refine g_aload_n C dL_law_264 2 rfl rfl ?_
    refine g_iload C dL_law_265 1 rfl ?_
    refine g_iconst C dL_law_267 (v := (nI 1)) (by decide) ?_
    refine g_iadd C dL_law_268 (v := (nI (6 * j + 1))) (nI_add _ _) ?_
    refine g_sld C hsx hbl hbA hL (i := 6 * j + 1) (by omega) dL_law_269 ?_
    refine g_aload_n C dL_law_270 2 rfl rfl ?_
    refine g_iload C dL_law_271 1 rfl ?_
    refine g_iconst C dL_law_273 (v := (nI 2)) (by decide) ?_
    refine g_iadd C dL_law_274 (v := (nI (6 * j + 2))) (nI_add _ _) ?_
    refine g_sld C hsx hbl hbA hL (i := 6 * j + 2) (by omega) dL_law_275 ?_
    refine g_callUV C ⟨g_X0_ok, trivial⟩ (t_X6_setPrice l D ty n0 np na nc nf nq no nx ny nl nh nb nw nt th (nI nv) (nI tl) av wr lf (nI es.length) p2 (xs (6 * j + 1)) (xs (6 * j + 2))) rfl gL_law_X6_setPrice 2 (by decide +kernel) rfl ⟨rfl, rfl⟩ ⟨Nat.le_of_ble_eq_true rfl, Nat.le_of_ble_eq_true rfl⟩ (rest := []) (q0 := 17) rfl rfl hA [17, 18] [0, 1, 2, 3, 4, 5, 6, 7, 8, 9, 10, 11, 12, 13, 14, 15, 16, 19, 20, 21, 22, 23, 24, 25, 26, 27, 28, 29, 30, 31] rfl rfl rfl (wr := [(x0, .inr (4, [.ref s0, .ref k0, .ref p0, .ref t0])), (s0, .inr (2, [.ref sp, .ref sa, .ref sc])), (sp, .inl (ty.1, 11, .inl (zN p2))), (sa, .inl (ty.2.2, 10, .inl (zB al))), (sc, .inl (ty.2.2, 16, .inl (zB cs))), (k0, .inr (1, [.int (nI es.length), .ref kf, .ref ko, .ref ka, .ref kb, .ref kt, .ref kl, .ref kp])), (kf, .inl (ty.2.1, 2000, .inr (.inl fF))), (ko, .inl (ty.1, 2000, .inl oF)), (ka, .inl (ty.1, 2000, .inl aF)), (kb, .inl (ty.1, 2000, .inl bF)), (kt, .inl (ty.1, 8, .inl tF)), (kl, .inl (ty.1, 4096, .inl sF)), (kp, .inl (ty.1, 13, .inl pF)), (p0, .inr (0, [.int (nI nv), .ref py])), (py, .inl (ty.1, 30, .inl (zN pb))), (t0, .inr (3, [.int (nI tl), .long lf, .ref tz, .int pl, .int er])), (tz, .inl (ty.1, 300, .inl (zN tb))), (na, .inl (ty.2.2, 10, .inl (zB al))), (nc, .inl (ty.2.2, 16, .inl (zB cs))), (nf, .inl (ty.2.1, 2000, .inr (.inl fM))), (nq, .inl (ty.1, 2000, .inl qM)), (no, .inl (ty.1, 2000, .inl oM)), (nx, .inl (ty.1, 2000, .inl aM)), (ny, .inl (ty.1, 2000, .inl bM)), (nl, .inl (ty.1, 1024, .inl lM)), (nh, .inl (ty.1, 2000, .inl hM)), (nb, .inl (ty.1, 8, .inl gM)), (nw, .inl (ty.1, 400, .inl (zN pb))), (nt, .inl (ty.1, 300, .inl (zN tb))), (oa, .inl (ty.2.1, 1, .inr (.inl fo)))]) rfl rfl rfl (Nat.le_of_ble_eq_true rfl) dL_law_276 ⟨by rw [hRc]; omega, by rw [hRs]; omega⟩ rfl (g_kui (fun r w hr => ?_))
    rcases hr with ⟨k2, u2, hk2, hok2, hvu2, hlo2, hu2, rfl, rfl⟩ | ⟨hbad2, rfl, rfl⟩ | ⟨hbad2, rfl, rfl⟩
    · skip
      obtain ⟨k3, h31, h32, h33⟩ := hbad
      obtain rfl := nI_ij (by omega) (by omega) (hok2.symm.trans h32)
      rw [hvu2, nI_toInt (by omega)] at h33
      generalize (if k2 = 10 then 0 else 1 : Nat) = lo at hlo2 h33
      omega
    · skip
      obtain ⟨k3, h31, h32, h33⟩ := hbad
      rw [h32, nI_toInt (by omega)] at hbad2
      omega
    · skip
      refine g_ws (ws' := [(x0, .inr (4, [.ref s0, .ref k0, .ref p0, .ref t0])), (s0, .inr (2, [.ref sp, .ref sa, .ref sc])), (sp, .inl (ty.1, 11, .inl (zN p2))), (sa, .inl (ty.2.2, 10, .inl (zB al))), (sc, .inl (ty.2.2, 16, .inl (zB cs))), (k0, .inr (1, [.int (nI es.length), .ref kf, .ref ko, .ref ka, .ref kb, .ref kt, .ref kl, .ref kp])), (kf, .inl (ty.2.1, 2000, .inr (.inl fF))), (ko, .inl (ty.1, 2000, .inl oF)), (ka, .inl (ty.1, 2000, .inl aF)), (kb, .inl (ty.1, 2000, .inl bF)), (kt, .inl (ty.1, 8, .inl tF)), (kl, .inl (ty.1, 4096, .inl sF)), (kp, .inl (ty.1, 13, .inl pF)), (p0, .inr (0, [.int (nI nv), .ref py])), (py, .inl (ty.1, 30, .inl (zN pb))), (t0, .inr (3, [.int (nI tl), .long lf, .ref tz, .int pl, .int er])), (tz, .inl (ty.1, 300, .inl (zN tb))), (n0, .inr (5, [.int (nI 2), .ref np, .ref na, .int (nI (p2 10)), .ref nc, .int (nI es.length), .ref nf, .ref nq, .ref no, .ref nx, .ref ny, .ref nl, .ref nh, .ref nb, .ref nw, .int (nI nv), .ref nt, .int (nI tl), .int av, .int wr, .long lf])), (np, .inl (ty.1, 10, .inl (zN p2))), (na, .inl (ty.2.2, 10, .inl (zB al))), (nc, .inl (ty.2.2, 16, .inl (zB cs))), (nf, .inl (ty.2.1, 2000, .inr (.inl fM))), (nq, .inl (ty.1, 2000, .inl qM)), (no, .inl (ty.1, 2000, .inl oM)), (nx, .inl (ty.1, 2000, .inl aM)), (ny, .inl (ty.1, 2000, .inl bM)), (nl, .inl (ty.1, 1024, .inl lM)), (nh, .inl (ty.1, 2000, .inl hM)), (nb, .inl (ty.1, 8, .inl gM)), (nw, .inl (ty.1, 400, .inl (zN pb))), (nt, .inl (ty.1, 300, .inl (zN tb))), (oa, .inl (ty.2.1, 1, .inr (.inl fo)))]) [0, 1, 2, 3, 4, 5, 6, 7, 8, 9, 10, 11, 12, 13, 14, 15, 16, 30, 31, 17, 18, 19, 20, 21, 22, 23, 24, 25, 26, 27, 28, 29] rfl rfl rfl ?_
      refine g_istore C dL_law_279 (by decide) (lv' := [(6, .int (nI 0)), (5, .int (nI 2)), (4, .int (nI (6 * j))), (0, .ref b), (1, .ref x0), (2, .ref n0), (3, .ref oa)]) rfl ?_
      refine g_aload_n C dL_law_281 5 rfl rfl ?_
      refine g_callPV C ⟨g_X0_ok, trivial⟩ (t_X6_thrown l D ty n0 np na nc nf nq no nx ny nl nh nb nw nt (nI 2) (nI (p2 10)) (nI nv) (nI tl) av wr lf (nI es.length)) rfl gL_law_X6_thrown 0 (by decide +kernel) rfl ⟨rfl, rfl⟩ ⟨Nat.le_of_ble_eq_true rfl, Nat.le_of_ble_eq_true rfl⟩ (rest := []) (q0 := 17) rfl rfl [17] rfl (Nat.le_of_ble_eq_true rfl) dL_law_282 ⟨by rw [hRc]; omega, by rw [hRs]; omega⟩ rfl (g_ki (fun r hr => ?_))
      subst hr
      refine g_iload C dL_law_285 1 rfl ?_
      refine g_icmp_eqN C dL_law_287 (tgt := 292) (by decide) (by omega) (by omega) (fun h287 => ?_) (fun h287 => ?_)
      · skip
        refine g_iload C dL_law_292 1 rfl ?_
        refine g_if_neN C dL_law_294 (tgt := 309) (by decide) (by omega) (fun h294 => ?_) (fun h294 => ?_)
        · skip
          refine g_goto C dL_law_309 (tgt := 1907) (by decide) ?_
          refine g_lv [2, 3, 4, 5, 6] rfl ?_
          refine g_wid (k0 := (40 + 2 * (j + 1))) (n0 := (27000 + 2030 * (j + 1))) (by omega) (by omega) ?_
          exact ih1907 p2 al cs es st fF oF aF bF tF sF pF fM qM oM aM bM lM hM gM nv pb tl tb lf pl er (nI 2) av wr fo (by omega) hp hw ht hmo hI hnv htl hb
        · skip
          exact absurd h294 (by decide)
      · skip
        exact absurd rfl h287


set_option maxHeartbeats 4000000 in
set_option maxRecDepth 100000 in
theorem lc_value {p : Program} {e : Env} {s : State} {m : MethodId} {args : Array Value} {below : List Frame} {meth : Method} {c : Code} {Q : State → Prop} {A : Nat → Prop} (l : Launch) (hfl : l.stackTraces = false) (D : va_G) (ty : g_T3) (C : g_Cx (g_IU A D s) p s m args c code 9 A D ty RL wsL_law) (hA : ∀ q, s.heap.size ≤ q → A q) (hX : g_Xok g_XT ∧ g_XT A s) {b L : Nat} {xs : Nat → Int32} (hsx : va_X b L xs s s.heap) (hbl : b < s.heap.size) (hbA : ¬ A b) (hL : L ≤ 3072) (x0 s0 sp sa sc k0 kf ko ka kb kt kl kp p0 py t0 tz n0 np na nc nf nq no nx ny nl nh nb nw nt oa : Nat) (j : Nat) (hj : 6 * j + 6 ≤ L) (p2 : Nat → Nat) (al cs : Nat → Bool) (es : List Ent) (st : Nat → Nat) (fF : Nat → Int64) (oF aF bF tF sF pF : Nat → Int32) (fM : Nat → Int64) (qM oM aM bM lM hM gM : Nat → Int32) (nv : Nat) (pb : Nat → Nat) (tl : Nat) (tb : Nat → Nat) (lf : Int64) (pl er th av wr : Int32) (fo : Nat → Int64) (hp : (∀ k, k < 10 → 1 ≤ p2 k ∧ p2 k ≤ 5) ∧ p2 10 ≤ 5) (hw : rowOk es fF oF aF bF sF) (ht : ∀ j, j < 8 → tF j = nI (st j)) (hmo : modOk es fM qM oM aM bM lM hM) (hI : stI es st) (hnv : nv ≤ 30) (htl : tl ≤ 300) (hb : ∀ i, tb i < 256) (ih1907 : ∀ (p2 : Nat → Nat) (al cs : Nat → Bool) (es : List Ent) (st : Nat → Nat) (fF : Nat → Int64) (oF aF bF tF sF pF : Nat → Int32) (fM : Nat → Int64) (qM oM aM bM lM hM gM : Nat → Int32) (nv : Nat) (pb : Nat → Nat) (tl : Nat) (tb : Nat → Nat) (lf : Int64) (pl er th av wr : Int32) (fo : Nat → Int64) , 0 < 1 → ((∀ k, k < 10 → 1 ≤ p2 k ∧ p2 k ≤ 5) ∧ p2 10 ≤ 5) → (rowOk es fF oF aF bF sF) → (∀ j, j < 8 → tF j = nI (st j)) → (modOk es fM qM oM aM bM lM hM) → (stI es st) → (nv ≤ 30) → (tl ≤ 300) → (∀ i, tb i < 256) → gG (g_IU A D s) p l e room_1 s m args below meth c Q 9 (40 + 2 * (j + 1)) (27000 + 2030 * (j + 1)) 1907 [(4, .int (nI (6 * j))), (0, .ref b), (1, .ref x0), (2, .ref n0), (3, .ref oa)] [] [(x0, .inr (4, [.ref s0, .ref k0, .ref p0, .ref t0])), (s0, .inr (2, [.ref sp, .ref sa, .ref sc])), (sp, .inl (ty.1, 11, .inl (zN p2))), (sa, .inl (ty.2.2, 10, .inl (zB al))), (sc, .inl (ty.2.2, 16, .inl (zB cs))), (k0, .inr (1, [.int (nI es.length), .ref kf, .ref ko, .ref ka, .ref kb, .ref kt, .ref kl, .ref kp])), (kf, .inl (ty.2.1, 2000, .inr (.inl fF))), (ko, .inl (ty.1, 2000, .inl oF)), (ka, .inl (ty.1, 2000, .inl aF)), (kb, .inl (ty.1, 2000, .inl bF)), (kt, .inl (ty.1, 8, .inl tF)), (kl, .inl (ty.1, 4096, .inl sF)), (kp, .inl (ty.1, 13, .inl pF)), (p0, .inr (0, [.int (nI nv), .ref py])), (py, .inl (ty.1, 30, .inl (zN pb))), (t0, .inr (3, [.int (nI tl), .long lf, .ref tz, .int pl, .int er])), (tz, .inl (ty.1, 300, .inl (zN tb))), (n0, .inr (5, [.int th, .ref np, .ref na, .int (nI (p2 10)), .ref nc, .int (nI es.length), .ref nf, .ref nq, .ref no, .ref nx, .ref ny, .ref nl, .ref nh, .ref nb, .ref nw, .int (nI nv), .ref nt, .int (nI tl), .int av, .int wr, .long lf])), (np, .inl (ty.1, 10, .inl (zN p2))), (na, .inl (ty.2.2, 10, .inl (zB al))), (nc, .inl (ty.2.2, 16, .inl (zB cs))), (nf, .inl (ty.2.1, 2000, .inr (.inl fM))), (nq, .inl (ty.1, 2000, .inl qM)), (no, .inl (ty.1, 2000, .inl oM)), (nx, .inl (ty.1, 2000, .inl aM)), (ny, .inl (ty.1, 2000, .inl bM)), (nl, .inl (ty.1, 1024, .inl lM)), (nh, .inl (ty.1, 2000, .inl hM)), (nb, .inl (ty.1, 8, .inl gM)), (nw, .inl (ty.1, 400, .inl (zN pb))), (nt, .inl (ty.1, 300, .inl (zN tb))), (oa, .inl (ty.2.1, 1, .inr (.inl fo)))]) : gG (g_IU A D s) p l e room_1 s m args below meth c Q 9 (40 + 2 * j) (27000 + 2030 * j) 396 [(4, .int (nI (6 * j))), (0, .ref b), (1, .ref x0), (2, .ref n0), (3, .ref oa)] [] [(x0, .inr (4, [.ref s0, .ref k0, .ref p0, .ref t0])), (s0, .inr (2, [.ref sp, .ref sa, .ref sc])), (sp, .inl (ty.1, 11, .inl (zN p2))), (sa, .inl (ty.2.2, 10, .inl (zB al))), (sc, .inl (ty.2.2, 16, .inl (zB cs))), (k0, .inr (1, [.int (nI es.length), .ref kf, .ref ko, .ref ka, .ref kb, .ref kt, .ref kl, .ref kp])), (kf, .inl (ty.2.1, 2000, .inr (.inl fF))), (ko, .inl (ty.1, 2000, .inl oF)), (ka, .inl (ty.1, 2000, .inl aF)), (kb, .inl (ty.1, 2000, .inl bF)), (kt, .inl (ty.1, 8, .inl tF)), (kl, .inl (ty.1, 4096, .inl sF)), (kp, .inl (ty.1, 13, .inl pF)), (p0, .inr (0, [.int (nI nv), .ref py])), (py, .inl (ty.1, 30, .inl (zN pb))), (t0, .inr (3, [.int (nI tl), .long lf, .ref tz, .int pl, .int er])), (tz, .inl (ty.1, 300, .inl (zN tb))), (n0, .inr (5, [.int th, .ref np, .ref na, .int (nI (p2 10)), .ref nc, .int (nI es.length), .ref nf, .ref nq, .ref no, .ref nx, .ref ny, .ref nl, .ref nh, .ref nb, .ref nw, .int (nI nv), .ref nt, .int (nI tl), .int av, .int wr, .long lf])), (np, .inl (ty.1, 10, .inl (zN p2))), (na, .inl (ty.2.2, 10, .inl (zB al))), (nc, .inl (ty.2.2, 16, .inl (zB cs))), (nf, .inl (ty.2.1, 2000, .inr (.inl fM))), (nq, .inl (ty.1, 2000, .inl qM)), (no, .inl (ty.1, 2000, .inl oM)), (nx, .inl (ty.1, 2000, .inl aM)), (ny, .inl (ty.1, 2000, .inl bM)), (nl, .inl (ty.1, 1024, .inl lM)), (nh, .inl (ty.1, 2000, .inl hM)), (nb, .inl (ty.1, 8, .inl gM)), (nw, .inl (ty.1, 400, .inl (zN pb))), (nt, .inl (ty.1, 300, .inl (zN tb))), (oa, .inl (ty.2.1, 1, .inr (.inl fo)))] := by
  have hRc : room_1.cells = 601024 := rfl
  have hRs : room_1.slots = 7293034 := rfl
  have hlen : es.length ≤ 2000 := hI.2.2.2.2
  refine g_aload_n C dL_law_396 2 rfl rfl ?_
  refine g_aload_n C dL_law_397 1 rfl rfl ?_
  refine g_iload C dL_law_398 0 rfl ?_
  refine g_iconst C dL_law_400 (v := (nI 1)) (by decide) ?_
  refine g_iadd C dL_law_401 (v := (nI (6 * j + 1))) (nI_add _ _) ?_
  refine g_sld C hsx hbl hbA hL (i := 6 * j + 1) (by omega) dL_law_402 ?_
  refine g_i2l C dL_law_403 (v := (Int32.toInt64 (xs (6 * j + 1)))) rfl ?_
  refine g_bipush C dL_law_404 (v := (nI 32)) (by decide) ?_
  refine g_lshl C dL_law_406 (v := (j_shl (Int32.toInt64 (xs (6 * j + 1))) (nI 32))) rfl ?_
  refine g_aload_n C dL_law_407 1 rfl rfl ?_
  refine g_iload C dL_law_408 0 rfl ?_
  refine g_iconst C dL_law_410 (v := (nI 2)) (by decide) ?_
  refine g_iadd C dL_law_411 (v := (nI (6 * j + 2))) (nI_add _ _) ?_
  refine g_sld C hsx hbl hbA hL (i := 6 * j + 2) (by omega) dL_law_412 ?_
  refine g_i2l C dL_law_413 (v := (Int32.toInt64 (xs (6 * j + 2)))) rfl ?_
  refine g_ldc2 C (v := (4294967295)) 7 rfl dL_law_414 ?_
  refine g_land C dL_law_417 (v := ((Int32.toInt64 (xs (6 * j + 2))) &&& (4294967295))) rfl ?_
  refine g_lor C dL_law_418 (v := (jj (xs (6 * j + 1)) (xs (6 * j + 2)))) rfl ?_
  refine g_aload_n C dL_law_419 1 rfl rfl ?_
  refine g_iload C dL_law_420 0 rfl ?_
  refine g_iconst C dL_law_422 (v := (nI 3)) (by decide) ?_
  refine g_iadd C dL_law_423 (v := (nI (6 * j + 3))) (nI_add _ _) ?_
  refine g_sld C hsx hbl hbA hL (i := 6 * j + 3) (by omega) dL_law_424 ?_
  refine g_aload_n C dL_law_425 4 rfl rfl ?_
  refine g_callUW C hX (t_L_value l hfl D ty s0 k0 p0 t0 x0 (jj (xs (6 * j + 1)) (xs (6 * j + 2))) (xs (6 * j + 3)) oa fo) rfl gL_law_L_value 4 (by decide +kernel) rfl ⟨rfl, rfl⟩ ⟨Nat.le_of_ble_eq_true rfl, Nat.le_of_ble_eq_true rfl⟩ (rest := []) hA [0, 31] [1, 2, 3, 4, 5, 6, 7, 8, 9, 10, 11, 12, 13, 14, 15, 16, 17, 18, 19, 20, 21, 22, 23, 24, 25, 26, 27, 28, 29, 30] rfl rfl rfl (wr := [(s0, .inr (2, [.ref sp, .ref sa, .ref sc])), (sp, .inl (ty.1, 11, .inl (zN p2))), (sa, .inl (ty.2.2, 10, .inl (zB al))), (sc, .inl (ty.2.2, 16, .inl (zB cs))), (k0, .inr (1, [.int (nI es.length), .ref kf, .ref ko, .ref ka, .ref kb, .ref kt, .ref kl, .ref kp])), (kf, .inl (ty.2.1, 2000, .inr (.inl fF))), (ko, .inl (ty.1, 2000, .inl oF)), (ka, .inl (ty.1, 2000, .inl aF)), (kb, .inl (ty.1, 2000, .inl bF)), (kt, .inl (ty.1, 8, .inl tF)), (kl, .inl (ty.1, 4096, .inl sF)), (kp, .inl (ty.1, 13, .inl pF)), (p0, .inr (0, [.int (nI nv), .ref py])), (py, .inl (ty.1, 30, .inl (zN pb))), (t0, .inr (3, [.int (nI tl), .long lf, .ref tz, .int pl, .int er])), (tz, .inl (ty.1, 300, .inl (zN tb))), (n0, .inr (5, [.int th, .ref np, .ref na, .int (nI (p2 10)), .ref nc, .int (nI es.length), .ref nf, .ref nq, .ref no, .ref nx, .ref ny, .ref nl, .ref nh, .ref nb, .ref nw, .int (nI nv), .ref nt, .int (nI tl), .int av, .int wr, .long lf])), (np, .inl (ty.1, 10, .inl (zN p2))), (na, .inl (ty.2.2, 10, .inl (zB al))), (nc, .inl (ty.2.2, 16, .inl (zB cs))), (nf, .inl (ty.2.1, 2000, .inr (.inl fM))), (nq, .inl (ty.1, 2000, .inl qM)), (no, .inl (ty.1, 2000, .inl oM)), (nx, .inl (ty.1, 2000, .inl aM)), (ny, .inl (ty.1, 2000, .inl bM)), (nl, .inl (ty.1, 1024, .inl lM)), (nh, .inl (ty.1, 2000, .inl hM)), (nb, .inl (ty.1, 8, .inl gM)), (nw, .inl (ty.1, 400, .inl (zN pb))), (nt, .inl (ty.1, 300, .inl (zN tb)))]) rfl rfl rfl (Nat.le_of_ble_eq_true rfl) dL_law_426 ⟨by rw [hRc]; omega, by rw [hRs]; omega⟩ rfl (g_kui (fun r w hr => ?_))
  rcases hr with ⟨k, hk, hok, rfl, rfl⟩ | ⟨hbad, rfl, rfl⟩
  · skip
    refine g_ws (ws' := [(x0, .inr (4, [.ref s0, .ref k0, .ref p0, .ref t0])), (s0, .inr (2, [.ref sp, .ref sa, .ref sc])), (sp, .inl (ty.1, 11, .inl (zN p2))), (sa, .inl (ty.2.2, 10, .inl (zB al))), (sc, .inl (ty.2.2, 16, .inl (zB cs))), (k0, .inr (1, [.int (nI es.length), .ref kf, .ref ko, .ref ka, .ref kb, .ref kt, .ref kl, .ref kp])), (kf, .inl (ty.2.1, 2000, .inr (.inl fF))), (ko, .inl (ty.1, 2000, .inl oF)), (ka, .inl (ty.1, 2000, .inl aF)), (kb, .inl (ty.1, 2000, .inl bF)), (kt, .inl (ty.1, 8, .inl tF)), (kl, .inl (ty.1, 4096, .inl sF)), (kp, .inl (ty.1, 13, .inl pF)), (p0, .inr (0, [.int (nI nv), .ref py])), (py, .inl (ty.1, 30, .inl (zN pb))), (t0, .inr (3, [.int (nI tl), .long lf, .ref tz, .int pl, .int er])), (tz, .inl (ty.1, 300, .inl (zN tb))), (n0, .inr (5, [.int th, .ref np, .ref na, .int (nI (p2 10)), .ref nc, .int (nI es.length), .ref nf, .ref nq, .ref no, .ref nx, .ref ny, .ref nl, .ref nh, .ref nb, .ref nw, .int (nI nv), .ref nt, .int (nI tl), .int av, .int wr, .long lf])), (np, .inl (ty.1, 10, .inl (zN p2))), (na, .inl (ty.2.2, 10, .inl (zB al))), (nc, .inl (ty.2.2, 16, .inl (zB cs))), (nf, .inl (ty.2.1, 2000, .inr (.inl fM))), (nq, .inl (ty.1, 2000, .inl qM)), (no, .inl (ty.1, 2000, .inl oM)), (nx, .inl (ty.1, 2000, .inl aM)), (ny, .inl (ty.1, 2000, .inl bM)), (nl, .inl (ty.1, 1024, .inl lM)), (nh, .inl (ty.1, 2000, .inl hM)), (nb, .inl (ty.1, 8, .inl gM)), (nw, .inl (ty.1, 400, .inl (zN pb))), (nt, .inl (ty.1, 300, .inl (zN tb))), (oa, .inl (ty.2.1, 1, .inr (.inl (vp_updL fo 0 (Int32.toInt64 (nI (nib (jj (xs (6 * j + 1)) (xs (6 * j + 2))) k)))))))]) [30, 0, 1, 2, 3, 4, 5, 6, 7, 8, 9, 10, 11, 12, 13, 14, 15, 16, 17, 18, 19, 20, 21, 22, 23, 24, 25, 26, 27, 28, 29, 31] rfl rfl rfl ?_
    refine g_istore C dL_law_429 (by decide) (lv' := [(5, .int (nI 0)), (4, .int (nI (6 * j))), (0, .ref b), (1, .ref x0), (2, .ref n0), (3, .ref oa)]) rfl ?_
    refine g_aload_n C dL_law_431 4 rfl rfl ?_
    refine g_aload_n C dL_law_432 2 rfl rfl ?_
    refine g_iload C dL_law_433 1 rfl ?_
    refine g_iconst C dL_law_435 (v := (nI 1)) (by decide) ?_
    refine g_iadd C dL_law_436 (v := (nI (6 * j + 1))) (nI_add _ _) ?_
    refine g_sld C hsx hbl hbA hL (i := 6 * j + 1) (by omega) dL_law_437 ?_
    refine g_i2l C dL_law_438 (v := (Int32.toInt64 (xs (6 * j + 1)))) rfl ?_
    refine g_bipush C dL_law_439 (v := (nI 32)) (by decide) ?_
    refine g_lshl C dL_law_441 (v := (j_shl (Int32.toInt64 (xs (6 * j + 1))) (nI 32))) rfl ?_
    refine g_aload_n C dL_law_442 2 rfl rfl ?_
    refine g_iload C dL_law_443 1 rfl ?_
    refine g_iconst C dL_law_445 (v := (nI 2)) (by decide) ?_
    refine g_iadd C dL_law_446 (v := (nI (6 * j + 2))) (nI_add _ _) ?_
    refine g_sld C hsx hbl hbA hL (i := 6 * j + 2) (by omega) dL_law_447 ?_
    refine g_i2l C dL_law_448 (v := (Int32.toInt64 (xs (6 * j + 2)))) rfl ?_
    refine g_ldc2 C (v := (4294967295)) 7 rfl dL_law_449 ?_
    refine g_land C dL_law_452 (v := ((Int32.toInt64 (xs (6 * j + 2))) &&& (4294967295))) rfl ?_
    refine g_lor C dL_law_453 (v := (jj (xs (6 * j + 1)) (xs (6 * j + 2)))) rfl ?_
    refine g_aload_n C dL_law_454 2 rfl rfl ?_
    refine g_iload C dL_law_455 1 rfl ?_
    refine g_iconst C dL_law_457 (v := (nI 3)) (by decide) ?_
    refine g_iadd C dL_law_458 (v := (nI (6 * j + 3))) (nI_add _ _) ?_
    refine g_sld C hsx hbl hbA hL (i := 6 * j + 3) (by omega) dL_law_459 ?_
    refine g_callUV C ⟨g_X0_ok, trivial⟩ (t_X6_value l D ty n0 np na nc nf nq no nx ny nl nh nb nw nt th (nI (p2 10)) (nI nv) (nI tl) av wr lf (nI es.length) (jj (xs (6 * j + 1)) (xs (6 * j + 2))) (xs (6 * j + 3))) rfl gL_law_X6_value 2 (by decide +kernel) rfl ⟨rfl, rfl⟩ ⟨Nat.le_of_ble_eq_true rfl, Nat.le_of_ble_eq_true rfl⟩ (rest := []) (q0 := 17) rfl rfl hA [17] [0, 1, 2, 3, 4, 5, 6, 7, 8, 9, 10, 11, 12, 13, 14, 15, 16, 18, 19, 20, 21, 22, 23, 24, 25, 26, 27, 28, 29, 30, 31] rfl rfl rfl (wr := [(x0, .inr (4, [.ref s0, .ref k0, .ref p0, .ref t0])), (s0, .inr (2, [.ref sp, .ref sa, .ref sc])), (sp, .inl (ty.1, 11, .inl (zN p2))), (sa, .inl (ty.2.2, 10, .inl (zB al))), (sc, .inl (ty.2.2, 16, .inl (zB cs))), (k0, .inr (1, [.int (nI es.length), .ref kf, .ref ko, .ref ka, .ref kb, .ref kt, .ref kl, .ref kp])), (kf, .inl (ty.2.1, 2000, .inr (.inl fF))), (ko, .inl (ty.1, 2000, .inl oF)), (ka, .inl (ty.1, 2000, .inl aF)), (kb, .inl (ty.1, 2000, .inl bF)), (kt, .inl (ty.1, 8, .inl tF)), (kl, .inl (ty.1, 4096, .inl sF)), (kp, .inl (ty.1, 13, .inl pF)), (p0, .inr (0, [.int (nI nv), .ref py])), (py, .inl (ty.1, 30, .inl (zN pb))), (t0, .inr (3, [.int (nI tl), .long lf, .ref tz, .int pl, .int er])), (tz, .inl (ty.1, 300, .inl (zN tb))), (np, .inl (ty.1, 10, .inl (zN p2))), (na, .inl (ty.2.2, 10, .inl (zB al))), (nc, .inl (ty.2.2, 16, .inl (zB cs))), (nf, .inl (ty.2.1, 2000, .inr (.inl fM))), (nq, .inl (ty.1, 2000, .inl qM)), (no, .inl (ty.1, 2000, .inl oM)), (nx, .inl (ty.1, 2000, .inl aM)), (ny, .inl (ty.1, 2000, .inl bM)), (nl, .inl (ty.1, 1024, .inl lM)), (nh, .inl (ty.1, 2000, .inl hM)), (nb, .inl (ty.1, 8, .inl gM)), (nw, .inl (ty.1, 400, .inl (zN pb))), (nt, .inl (ty.1, 300, .inl (zN tb))), (oa, .inl (ty.2.1, 1, .inr (.inl (vp_updL fo 0 (Int32.toInt64 (nI (nib (jj (xs (6 * j + 1)) (xs (6 * j + 2))) k)))))))]) rfl rfl rfl (Nat.le_of_ble_eq_true rfl) dL_law_460 ⟨by rw [hRc]; omega, by rw [hRs]; omega⟩ rfl (g_kui (fun r w hr => ?_))
    rcases hr with ⟨k2, hk2, hok2, rfl, rfl⟩ | ⟨hbad2, rfl, rfl⟩
    · skip
      obtain rfl := nI_ij (by omega) (by omega) (hok.symm.trans hok2)
      refine g_ws (ws' := [(x0, .inr (4, [.ref s0, .ref k0, .ref p0, .ref t0])), (s0, .inr (2, [.ref sp, .ref sa, .ref sc])), (sp, .inl (ty.1, 11, .inl (zN p2))), (sa, .inl (ty.2.2, 10, .inl (zB al))), (sc, .inl (ty.2.2, 16, .inl (zB cs))), (k0, .inr (1, [.int (nI es.length), .ref kf, .ref ko, .ref ka, .ref kb, .ref kt, .ref kl, .ref kp])), (kf, .inl (ty.2.1, 2000, .inr (.inl fF))), (ko, .inl (ty.1, 2000, .inl oF)), (ka, .inl (ty.1, 2000, .inl aF)), (kb, .inl (ty.1, 2000, .inl bF)), (kt, .inl (ty.1, 8, .inl tF)), (kl, .inl (ty.1, 4096, .inl sF)), (kp, .inl (ty.1, 13, .inl pF)), (p0, .inr (0, [.int (nI nv), .ref py])), (py, .inl (ty.1, 30, .inl (zN pb))), (t0, .inr (3, [.int (nI tl), .long lf, .ref tz, .int pl, .int er])), (tz, .inl (ty.1, 300, .inl (zN tb))), (n0, .inr (5, [.int (nI 0), .ref np, .ref na, .int (nI (p2 10)), .ref nc, .int (nI es.length), .ref nf, .ref nq, .ref no, .ref nx, .ref ny, .ref nl, .ref nh, .ref nb, .ref nw, .int (nI nv), .ref nt, .int (nI tl), .int av, .int wr, .long lf])), (np, .inl (ty.1, 10, .inl (zN p2))), (na, .inl (ty.2.2, 10, .inl (zB al))), (nc, .inl (ty.2.2, 16, .inl (zB cs))), (nf, .inl (ty.2.1, 2000, .inr (.inl fM))), (nq, .inl (ty.1, 2000, .inl qM)), (no, .inl (ty.1, 2000, .inl oM)), (nx, .inl (ty.1, 2000, .inl aM)), (ny, .inl (ty.1, 2000, .inl bM)), (nl, .inl (ty.1, 1024, .inl lM)), (nh, .inl (ty.1, 2000, .inl hM)), (nb, .inl (ty.1, 8, .inl gM)), (nw, .inl (ty.1, 400, .inl (zN pb))), (nt, .inl (ty.1, 300, .inl (zN tb))), (oa, .inl (ty.2.1, 1, .inr (.inl (vp_updL fo 0 (Int32.toInt64 (nI (nib (jj (xs (6 * j + 1)) (xs (6 * j + 2))) k)))))))]) [0, 1, 2, 3, 4, 5, 6, 7, 8, 9, 10, 11, 12, 13, 14, 15, 16, 31, 17, 18, 19, 20, 21, 22, 23, 24, 25, 26, 27, 28, 29, 30] rfl rfl rfl ?_
      refine g_istore C dL_law_463 (by decide) (lv' := [(6, .int (nI (nib (jj (xs (6 * j + 1)) (xs (6 * j + 2))) k))), (5, .int (nI 0)), (4, .int (nI (6 * j))), (0, .ref b), (1, .ref x0), (2, .ref n0), (3, .ref oa)]) rfl ?_
      refine g_aload_n C dL_law_465 5 rfl rfl ?_
      refine g_callPV C ⟨g_X0_ok, trivial⟩ (t_X6_thrown l D ty n0 np na nc nf nq no nx ny nl nh nb nw nt (nI 0) (nI (p2 10)) (nI nv) (nI tl) av wr lf (nI es.length)) rfl gL_law_X6_thrown 0 (by decide +kernel) rfl ⟨rfl, rfl⟩ ⟨Nat.le_of_ble_eq_true rfl, Nat.le_of_ble_eq_true rfl⟩ (rest := []) (q0 := 17) rfl rfl [17] rfl (Nat.le_of_ble_eq_true rfl) dL_law_466 ⟨by rw [hRc]; omega, by rw [hRs]; omega⟩ rfl (g_ki (fun r hr => ?_))
      subst hr
      refine g_iload C dL_law_469 1 rfl ?_
      refine g_icmp_eqN C dL_law_471 (tgt := 476) (by decide) (by omega) (by omega) (fun h471 => ?_) (fun h471 => ?_)
      · skip
        refine g_iload C dL_law_476 1 rfl ?_
        refine g_if_neN C dL_law_478 (tgt := 493) (by decide) (by omega) (fun h478 => ?_) (fun h478 => ?_)
        · skip
          exact absurd rfl h478
        · skip
          refine g_aload_n C dL_law_481 6 rfl rfl ?_
          refine g_iconst C dL_law_482 (v := (nI 0)) (by decide) ?_
          refine g_lald C (v := (Int32.toInt64 (nI (nib (jj (xs (6 * j + 1)) (xs (6 * j + 2))) k)))) 31 rfl (by omega) (by omega) (pk_uLs) dL_law_483 ?_
          refine g_iload C dL_law_484 0 rfl ?_
          refine g_i2l C dL_law_486 (v := (Int32.toInt64 (nI (nib (jj (xs (6 * j + 1)) (xs (6 * j + 2))) k)))) rfl ?_
          refine g_lcmp C dL_law_487 ?_
          refine g_if_eq C dL_law_488 (tgt := 493) (by decide) (fun h488 => ?_) (fun h488 => ?_)
          · skip
            refine g_goto C dL_law_493 (tgt := 1907) (by decide) ?_
            refine g_lv [2, 3, 4, 5, 6] rfl ?_
            refine g_wid (k0 := (40 + 2 * (j + 1))) (n0 := (27000 + 2030 * (j + 1))) (by omega) (by omega) ?_
            exact ih1907 p2 al cs es st fF oF aF bF tF sF pF fM qM oM aM bM lM hM gM nv pb tl tb lf pl er (nI 0) av wr (vp_updL fo 0 (Int32.toInt64 (nI (nib (jj (xs (6 * j + 1)) (xs (6 * j + 2))) k)))) (by omega) hp hw ht hmo hI hnv htl hb
          · skip
            exact absurd (lg_eq rfl) h488
      · skip
        exact absurd rfl h471
    · skip
      rw [hok, nI_toInt (by omega)] at hbad2
      omega
  · skip
    refine g_ws (ws' := [(x0, .inr (4, [.ref s0, .ref k0, .ref p0, .ref t0])), (s0, .inr (2, [.ref sp, .ref sa, .ref sc])), (sp, .inl (ty.1, 11, .inl (zN p2))), (sa, .inl (ty.2.2, 10, .inl (zB al))), (sc, .inl (ty.2.2, 16, .inl (zB cs))), (k0, .inr (1, [.int (nI es.length), .ref kf, .ref ko, .ref ka, .ref kb, .ref kt, .ref kl, .ref kp])), (kf, .inl (ty.2.1, 2000, .inr (.inl fF))), (ko, .inl (ty.1, 2000, .inl oF)), (ka, .inl (ty.1, 2000, .inl aF)), (kb, .inl (ty.1, 2000, .inl bF)), (kt, .inl (ty.1, 8, .inl tF)), (kl, .inl (ty.1, 4096, .inl sF)), (kp, .inl (ty.1, 13, .inl pF)), (p0, .inr (0, [.int (nI nv), .ref py])), (py, .inl (ty.1, 30, .inl (zN pb))), (t0, .inr (3, [.int (nI tl), .long lf, .ref tz, .int pl, .int er])), (tz, .inl (ty.1, 300, .inl (zN tb))), (n0, .inr (5, [.int th, .ref np, .ref na, .int (nI (p2 10)), .ref nc, .int (nI es.length), .ref nf, .ref nq, .ref no, .ref nx, .ref ny, .ref nl, .ref nh, .ref nb, .ref nw, .int (nI nv), .ref nt, .int (nI tl), .int av, .int wr, .long lf])), (np, .inl (ty.1, 10, .inl (zN p2))), (na, .inl (ty.2.2, 10, .inl (zB al))), (nc, .inl (ty.2.2, 16, .inl (zB cs))), (nf, .inl (ty.2.1, 2000, .inr (.inl fM))), (nq, .inl (ty.1, 2000, .inl qM)), (no, .inl (ty.1, 2000, .inl oM)), (nx, .inl (ty.1, 2000, .inl aM)), (ny, .inl (ty.1, 2000, .inl bM)), (nl, .inl (ty.1, 1024, .inl lM)), (nh, .inl (ty.1, 2000, .inl hM)), (nb, .inl (ty.1, 8, .inl gM)), (nw, .inl (ty.1, 400, .inl (zN pb))), (nt, .inl (ty.1, 300, .inl (zN tb))), (oa, .inl (ty.2.1, 1, .inr (.inl fo)))]) [30, 0, 1, 2, 3, 4, 5, 6, 7, 8, 9, 10, 11, 12, 13, 14, 15, 16, 17, 18, 19, 20, 21, 22, 23, 24, 25, 26, 27, 28, 29, 31] rfl rfl rfl ?_
    refine g_istore C dL_law_429 (by decide) (lv' := [(5, .int (nI 1)), (4, .int (nI (6 * j))), (0, .ref b), (1, .ref x0), (2, .ref n0), (3, .ref oa)]) rfl ?_
    refine g_aload_n C dL_law_431 4 rfl rfl ?_
    refine g_aload_n C dL_law_432 2 rfl rfl ?_
    refine g_iload C dL_law_433 1 rfl ?_
    refine g_iconst C dL_law_435 (v := (nI 1)) (by decide) ?_
    refine g_iadd C dL_law_436 (v := (nI (6 * j + 1))) (nI_add _ _) ?_
    refine g_sld C hsx hbl hbA hL (i := 6 * j + 1) (by omega) dL_law_437 ?_
    refine g_i2l C dL_law_438 (v := (Int32.toInt64 (xs (6 * j + 1)))) rfl ?_
    refine g_bipush C dL_law_439 (v := (nI 32)) (by decide) ?_
    refine g_lshl C dL_law_441 (v := (j_shl (Int32.toInt64 (xs (6 * j + 1))) (nI 32))) rfl ?_
    refine g_aload_n C dL_law_442 2 rfl rfl ?_
    refine g_iload C dL_law_443 1 rfl ?_
    refine g_iconst C dL_law_445 (v := (nI 2)) (by decide) ?_
    refine g_iadd C dL_law_446 (v := (nI (6 * j + 2))) (nI_add _ _) ?_
    refine g_sld C hsx hbl hbA hL (i := 6 * j + 2) (by omega) dL_law_447 ?_
    refine g_i2l C dL_law_448 (v := (Int32.toInt64 (xs (6 * j + 2)))) rfl ?_
    refine g_ldc2 C (v := (4294967295)) 7 rfl dL_law_449 ?_
    refine g_land C dL_law_452 (v := ((Int32.toInt64 (xs (6 * j + 2))) &&& (4294967295))) rfl ?_
    refine g_lor C dL_law_453 (v := (jj (xs (6 * j + 1)) (xs (6 * j + 2)))) rfl ?_
    refine g_aload_n C dL_law_454 2 rfl rfl ?_
    refine g_iload C dL_law_455 1 rfl ?_
    refine g_iconst C dL_law_457 (v := (nI 3)) (by decide) ?_
    refine g_iadd C dL_law_458 (v := (nI (6 * j + 3))) (nI_add _ _) ?_
    refine g_sld C hsx hbl hbA hL (i := 6 * j + 3) (by omega) dL_law_459 ?_
    refine g_callUV C ⟨g_X0_ok, trivial⟩ (t_X6_value l D ty n0 np na nc nf nq no nx ny nl nh nb nw nt th (nI (p2 10)) (nI nv) (nI tl) av wr lf (nI es.length) (jj (xs (6 * j + 1)) (xs (6 * j + 2))) (xs (6 * j + 3))) rfl gL_law_X6_value 2 (by decide +kernel) rfl ⟨rfl, rfl⟩ ⟨Nat.le_of_ble_eq_true rfl, Nat.le_of_ble_eq_true rfl⟩ (rest := []) (q0 := 17) rfl rfl hA [17] [0, 1, 2, 3, 4, 5, 6, 7, 8, 9, 10, 11, 12, 13, 14, 15, 16, 18, 19, 20, 21, 22, 23, 24, 25, 26, 27, 28, 29, 30, 31] rfl rfl rfl (wr := [(x0, .inr (4, [.ref s0, .ref k0, .ref p0, .ref t0])), (s0, .inr (2, [.ref sp, .ref sa, .ref sc])), (sp, .inl (ty.1, 11, .inl (zN p2))), (sa, .inl (ty.2.2, 10, .inl (zB al))), (sc, .inl (ty.2.2, 16, .inl (zB cs))), (k0, .inr (1, [.int (nI es.length), .ref kf, .ref ko, .ref ka, .ref kb, .ref kt, .ref kl, .ref kp])), (kf, .inl (ty.2.1, 2000, .inr (.inl fF))), (ko, .inl (ty.1, 2000, .inl oF)), (ka, .inl (ty.1, 2000, .inl aF)), (kb, .inl (ty.1, 2000, .inl bF)), (kt, .inl (ty.1, 8, .inl tF)), (kl, .inl (ty.1, 4096, .inl sF)), (kp, .inl (ty.1, 13, .inl pF)), (p0, .inr (0, [.int (nI nv), .ref py])), (py, .inl (ty.1, 30, .inl (zN pb))), (t0, .inr (3, [.int (nI tl), .long lf, .ref tz, .int pl, .int er])), (tz, .inl (ty.1, 300, .inl (zN tb))), (np, .inl (ty.1, 10, .inl (zN p2))), (na, .inl (ty.2.2, 10, .inl (zB al))), (nc, .inl (ty.2.2, 16, .inl (zB cs))), (nf, .inl (ty.2.1, 2000, .inr (.inl fM))), (nq, .inl (ty.1, 2000, .inl qM)), (no, .inl (ty.1, 2000, .inl oM)), (nx, .inl (ty.1, 2000, .inl aM)), (ny, .inl (ty.1, 2000, .inl bM)), (nl, .inl (ty.1, 1024, .inl lM)), (nh, .inl (ty.1, 2000, .inl hM)), (nb, .inl (ty.1, 8, .inl gM)), (nw, .inl (ty.1, 400, .inl (zN pb))), (nt, .inl (ty.1, 300, .inl (zN tb))), (oa, .inl (ty.2.1, 1, .inr (.inl fo)))]) rfl rfl rfl (Nat.le_of_ble_eq_true rfl) dL_law_460 ⟨by rw [hRc]; omega, by rw [hRs]; omega⟩ rfl (g_kui (fun r w hr => ?_))
    rcases hr with ⟨k2, hk2, hok2, rfl, rfl⟩ | ⟨hbad2, rfl, rfl⟩
    · skip
      rw [hok2, nI_toInt (by omega)] at hbad
      omega
    · skip
      refine g_ws (ws' := [(x0, .inr (4, [.ref s0, .ref k0, .ref p0, .ref t0])), (s0, .inr (2, [.ref sp, .ref sa, .ref sc])), (sp, .inl (ty.1, 11, .inl (zN p2))), (sa, .inl (ty.2.2, 10, .inl (zB al))), (sc, .inl (ty.2.2, 16, .inl (zB cs))), (k0, .inr (1, [.int (nI es.length), .ref kf, .ref ko, .ref ka, .ref kb, .ref kt, .ref kl, .ref kp])), (kf, .inl (ty.2.1, 2000, .inr (.inl fF))), (ko, .inl (ty.1, 2000, .inl oF)), (ka, .inl (ty.1, 2000, .inl aF)), (kb, .inl (ty.1, 2000, .inl bF)), (kt, .inl (ty.1, 8, .inl tF)), (kl, .inl (ty.1, 4096, .inl sF)), (kp, .inl (ty.1, 13, .inl pF)), (p0, .inr (0, [.int (nI nv), .ref py])), (py, .inl (ty.1, 30, .inl (zN pb))), (t0, .inr (3, [.int (nI tl), .long lf, .ref tz, .int pl, .int er])), (tz, .inl (ty.1, 300, .inl (zN tb))), (n0, .inr (5, [.int (nI 1), .ref np, .ref na, .int (nI (p2 10)), .ref nc, .int (nI es.length), .ref nf, .ref nq, .ref no, .ref nx, .ref ny, .ref nl, .ref nh, .ref nb, .ref nw, .int (nI nv), .ref nt, .int (nI tl), .int av, .int wr, .long lf])), (np, .inl (ty.1, 10, .inl (zN p2))), (na, .inl (ty.2.2, 10, .inl (zB al))), (nc, .inl (ty.2.2, 16, .inl (zB cs))), (nf, .inl (ty.2.1, 2000, .inr (.inl fM))), (nq, .inl (ty.1, 2000, .inl qM)), (no, .inl (ty.1, 2000, .inl oM)), (nx, .inl (ty.1, 2000, .inl aM)), (ny, .inl (ty.1, 2000, .inl bM)), (nl, .inl (ty.1, 1024, .inl lM)), (nh, .inl (ty.1, 2000, .inl hM)), (nb, .inl (ty.1, 8, .inl gM)), (nw, .inl (ty.1, 400, .inl (zN pb))), (nt, .inl (ty.1, 300, .inl (zN tb))), (oa, .inl (ty.2.1, 1, .inr (.inl fo)))]) [0, 1, 2, 3, 4, 5, 6, 7, 8, 9, 10, 11, 12, 13, 14, 15, 16, 31, 17, 18, 19, 20, 21, 22, 23, 24, 25, 26, 27, 28, 29, 30] rfl rfl rfl ?_
      refine g_istore C dL_law_463 (by decide) (lv' := [(6, .int (nI 0)), (5, .int (nI 1)), (4, .int (nI (6 * j))), (0, .ref b), (1, .ref x0), (2, .ref n0), (3, .ref oa)]) rfl ?_
      refine g_aload_n C dL_law_465 5 rfl rfl ?_
      refine g_callPV C ⟨g_X0_ok, trivial⟩ (t_X6_thrown l D ty n0 np na nc nf nq no nx ny nl nh nb nw nt (nI 1) (nI (p2 10)) (nI nv) (nI tl) av wr lf (nI es.length)) rfl gL_law_X6_thrown 0 (by decide +kernel) rfl ⟨rfl, rfl⟩ ⟨Nat.le_of_ble_eq_true rfl, Nat.le_of_ble_eq_true rfl⟩ (rest := []) (q0 := 17) rfl rfl [17] rfl (Nat.le_of_ble_eq_true rfl) dL_law_466 ⟨by rw [hRc]; omega, by rw [hRs]; omega⟩ rfl (g_ki (fun r hr => ?_))
      subst hr
      refine g_iload C dL_law_469 1 rfl ?_
      refine g_icmp_eqN C dL_law_471 (tgt := 476) (by decide) (by omega) (by omega) (fun h471 => ?_) (fun h471 => ?_)
      · skip
        refine g_iload C dL_law_476 1 rfl ?_
        refine g_if_neN C dL_law_478 (tgt := 493) (by decide) (by omega) (fun h478 => ?_) (fun h478 => ?_)
        · skip
          refine g_goto C dL_law_493 (tgt := 1907) (by decide) ?_
          refine g_lv [2, 3, 4, 5, 6] rfl ?_
          refine g_wid (k0 := (40 + 2 * (j + 1))) (n0 := (27000 + 2030 * (j + 1))) (by omega) (by omega) ?_
          exact ih1907 p2 al cs es st fF oF aF bF tF sF pF fM qM oM aM bM lM hM gM nv pb tl tb lf pl er (nI 1) av wr fo (by omega) hp hw ht hmo hI hnv htl hb
        · skip
          exact absurd h478 (by decide)
      · skip
        exact absurd rfl h471

set_option maxHeartbeats 4000000 in
set_option maxRecDepth 100000 in
theorem lc_apply {p : Program} {e : Env} {s : State} {m : MethodId} {args : Array Value} {below : List Frame} {meth : Method} {c : Code} {Q : State → Prop} {A : Nat → Prop} (l : Launch) (hfl : l.stackTraces = false) (D : va_G) (ty : g_T3) (C : g_Cx (g_IU A D s) p s m args c code 9 A D ty RL wsL_law) (hA : ∀ q, s.heap.size ≤ q → A q) (hX : g_Xok g_XT ∧ g_XT A s) {b L : Nat} {xs : Nat → Int32} (hsx : va_X b L xs s s.heap) (hbl : b < s.heap.size) (hbA : ¬ A b) (hL : L ≤ 3072) (x0 s0 sp sa sc k0 kf ko ka kb kt kl kp p0 py t0 tz n0 np na nc nf nq no nx ny nl nh nb nw nt oa : Nat) (j : Nat) (hj : 6 * j + 6 ≤ L) (p2 : Nat → Nat) (al cs : Nat → Bool) (es : List Ent) (st : Nat → Nat) (fF : Nat → Int64) (oF aF bF tF sF pF : Nat → Int32) (fM : Nat → Int64) (qM oM aM bM lM hM gM : Nat → Int32) (nv : Nat) (pb : Nat → Nat) (tl : Nat) (tb : Nat → Nat) (lf : Int64) (pl er th av wr : Int32) (fo : Nat → Int64) (hp : (∀ k, k < 10 → 1 ≤ p2 k ∧ p2 k ≤ 5) ∧ p2 10 ≤ 5) (hw : rowOk es fF oF aF bF sF) (ht : ∀ j, j < 8 → tF j = nI (st j)) (hmo : modOk es fM qM oM aM bM lM hM) (hI : stI es st) (hnv : nv ≤ 30) (htl : tl ≤ 300) (hb : ∀ i, tb i < 256) (ih1907 : ∀ (p2 : Nat → Nat) (al cs : Nat → Bool) (es : List Ent) (st : Nat → Nat) (fF : Nat → Int64) (oF aF bF tF sF pF : Nat → Int32) (fM : Nat → Int64) (qM oM aM bM lM hM gM : Nat → Int32) (nv : Nat) (pb : Nat → Nat) (tl : Nat) (tb : Nat → Nat) (lf : Int64) (pl er th av wr : Int32) (fo : Nat → Int64) , 0 < 1 → ((∀ k, k < 10 → 1 ≤ p2 k ∧ p2 k ≤ 5) ∧ p2 10 ≤ 5) → (rowOk es fF oF aF bF sF) → (∀ j, j < 8 → tF j = nI (st j)) → (modOk es fM qM oM aM bM lM hM) → (stI es st) → (nv ≤ 30) → (tl ≤ 300) → (∀ i, tb i < 256) → gG (g_IU A D s) p l e room_1 s m args below meth c Q 9 (40 + 2 * (j + 1)) (27000 + 2030 * (j + 1)) 1907 [(4, .int (nI (6 * j))), (0, .ref b), (1, .ref x0), (2, .ref n0), (3, .ref oa)] [] [(x0, .inr (4, [.ref s0, .ref k0, .ref p0, .ref t0])), (s0, .inr (2, [.ref sp, .ref sa, .ref sc])), (sp, .inl (ty.1, 11, .inl (zN p2))), (sa, .inl (ty.2.2, 10, .inl (zB al))), (sc, .inl (ty.2.2, 16, .inl (zB cs))), (k0, .inr (1, [.int (nI es.length), .ref kf, .ref ko, .ref ka, .ref kb, .ref kt, .ref kl, .ref kp])), (kf, .inl (ty.2.1, 2000, .inr (.inl fF))), (ko, .inl (ty.1, 2000, .inl oF)), (ka, .inl (ty.1, 2000, .inl aF)), (kb, .inl (ty.1, 2000, .inl bF)), (kt, .inl (ty.1, 8, .inl tF)), (kl, .inl (ty.1, 4096, .inl sF)), (kp, .inl (ty.1, 13, .inl pF)), (p0, .inr (0, [.int (nI nv), .ref py])), (py, .inl (ty.1, 30, .inl (zN pb))), (t0, .inr (3, [.int (nI tl), .long lf, .ref tz, .int pl, .int er])), (tz, .inl (ty.1, 300, .inl (zN tb))), (n0, .inr (5, [.int th, .ref np, .ref na, .int (nI (p2 10)), .ref nc, .int (nI es.length), .ref nf, .ref nq, .ref no, .ref nx, .ref ny, .ref nl, .ref nh, .ref nb, .ref nw, .int (nI nv), .ref nt, .int (nI tl), .int av, .int wr, .long lf])), (np, .inl (ty.1, 10, .inl (zN p2))), (na, .inl (ty.2.2, 10, .inl (zB al))), (nc, .inl (ty.2.2, 16, .inl (zB cs))), (nf, .inl (ty.2.1, 2000, .inr (.inl fM))), (nq, .inl (ty.1, 2000, .inl qM)), (no, .inl (ty.1, 2000, .inl oM)), (nx, .inl (ty.1, 2000, .inl aM)), (ny, .inl (ty.1, 2000, .inl bM)), (nl, .inl (ty.1, 1024, .inl lM)), (nh, .inl (ty.1, 2000, .inl hM)), (nb, .inl (ty.1, 8, .inl gM)), (nw, .inl (ty.1, 400, .inl (zN pb))), (nt, .inl (ty.1, 300, .inl (zN tb))), (oa, .inl (ty.2.1, 1, .inr (.inl fo)))]) : gG (g_IU A D s) p l e room_1 s m args below meth c Q 9 (40 + 2 * j) (27000 + 2030 * j) 496 [(4, .int (nI (6 * j))), (0, .ref b), (1, .ref x0), (2, .ref n0), (3, .ref oa)] [] [(x0, .inr (4, [.ref s0, .ref k0, .ref p0, .ref t0])), (s0, .inr (2, [.ref sp, .ref sa, .ref sc])), (sp, .inl (ty.1, 11, .inl (zN p2))), (sa, .inl (ty.2.2, 10, .inl (zB al))), (sc, .inl (ty.2.2, 16, .inl (zB cs))), (k0, .inr (1, [.int (nI es.length), .ref kf, .ref ko, .ref ka, .ref kb, .ref kt, .ref kl, .ref kp])), (kf, .inl (ty.2.1, 2000, .inr (.inl fF))), (ko, .inl (ty.1, 2000, .inl oF)), (ka, .inl (ty.1, 2000, .inl aF)), (kb, .inl (ty.1, 2000, .inl bF)), (kt, .inl (ty.1, 8, .inl tF)), (kl, .inl (ty.1, 4096, .inl sF)), (kp, .inl (ty.1, 13, .inl pF)), (p0, .inr (0, [.int (nI nv), .ref py])), (py, .inl (ty.1, 30, .inl (zN pb))), (t0, .inr (3, [.int (nI tl), .long lf, .ref tz, .int pl, .int er])), (tz, .inl (ty.1, 300, .inl (zN tb))), (n0, .inr (5, [.int th, .ref np, .ref na, .int (nI (p2 10)), .ref nc, .int (nI es.length), .ref nf, .ref nq, .ref no, .ref nx, .ref ny, .ref nl, .ref nh, .ref nb, .ref nw, .int (nI nv), .ref nt, .int (nI tl), .int av, .int wr, .long lf])), (np, .inl (ty.1, 10, .inl (zN p2))), (na, .inl (ty.2.2, 10, .inl (zB al))), (nc, .inl (ty.2.2, 16, .inl (zB cs))), (nf, .inl (ty.2.1, 2000, .inr (.inl fM))), (nq, .inl (ty.1, 2000, .inl qM)), (no, .inl (ty.1, 2000, .inl oM)), (nx, .inl (ty.1, 2000, .inl aM)), (ny, .inl (ty.1, 2000, .inl bM)), (nl, .inl (ty.1, 1024, .inl lM)), (nh, .inl (ty.1, 2000, .inl hM)), (nb, .inl (ty.1, 8, .inl gM)), (nw, .inl (ty.1, 400, .inl (zN pb))), (nt, .inl (ty.1, 300, .inl (zN tb))), (oa, .inl (ty.2.1, 1, .inr (.inl fo)))] := by
  have hRc : room_1.cells = 601024 := rfl
  have hRs : room_1.slots = 7293034 := rfl
  have hlen : es.length ≤ 2000 := hI.2.2.2.2
  refine g_aload_n C dL_law_496 2 rfl rfl ?_
  refine g_aload_n C dL_law_497 1 rfl rfl ?_
  refine g_iload C dL_law_498 0 rfl ?_
  refine g_iconst C dL_law_500 (v := (nI 1)) (by decide) ?_
  refine g_iadd C dL_law_501 (v := (nI (6 * j + 1))) (nI_add _ _) ?_
  refine g_sld C hsx hbl hbA hL (i := 6 * j + 1) (by omega) dL_law_502 ?_
  refine g_aload_n C dL_law_503 1 rfl rfl ?_
  refine g_iload C dL_law_504 0 rfl ?_
  refine g_iconst C dL_law_506 (v := (nI 2)) (by decide) ?_
  refine g_iadd C dL_law_507 (v := (nI (6 * j + 2))) (nI_add _ _) ?_
  refine g_sld C hsx hbl hbA hL (i := 6 * j + 2) (by omega) dL_law_508 ?_
  refine g_i2l C dL_law_509 (v := (Int32.toInt64 (xs (6 * j + 2)))) rfl ?_
  refine g_bipush C dL_law_510 (v := (nI 32)) (by decide) ?_
  refine g_lshl C dL_law_512 (v := (j_shl (Int32.toInt64 (xs (6 * j + 2))) (nI 32))) rfl ?_
  refine g_aload_n C dL_law_513 1 rfl rfl ?_
  refine g_iload C dL_law_514 0 rfl ?_
  refine g_iconst C dL_law_516 (v := (nI 3)) (by decide) ?_
  refine g_iadd C dL_law_517 (v := (nI (6 * j + 3))) (nI_add _ _) ?_
  refine g_sld C hsx hbl hbA hL (i := 6 * j + 3) (by omega) dL_law_518 ?_
  refine g_i2l C dL_law_519 (v := (Int32.toInt64 (xs (6 * j + 3)))) rfl ?_
  refine g_ldc2 C (v := (4294967295)) 7 rfl dL_law_520 ?_
  refine g_land C dL_law_523 (v := ((Int32.toInt64 (xs (6 * j + 3))) &&& (4294967295))) rfl ?_
  refine g_lor C dL_law_524 (v := (jj (xs (6 * j + 2)) (xs (6 * j + 3)))) rfl ?_
  refine g_aload_n C dL_law_525 1 rfl rfl ?_
  refine g_iload C dL_law_526 0 rfl ?_
  refine g_iconst C dL_law_528 (v := (nI 4)) (by decide) ?_
  refine g_iadd C dL_law_529 (v := (nI (6 * j + 4))) (nI_add _ _) ?_
  refine g_sld C hsx hbl hbA hL (i := 6 * j + 4) (by omega) dL_law_530 ?_
  refine g_i2l C dL_law_531 (v := (Int32.toInt64 (xs (6 * j + 4)))) rfl ?_
  refine g_bipush C dL_law_532 (v := (nI 32)) (by decide) ?_
  refine g_lshl C dL_law_534 (v := (j_shl (Int32.toInt64 (xs (6 * j + 4))) (nI 32))) rfl ?_
  refine g_aload_n C dL_law_535 1 rfl rfl ?_
  refine g_iload C dL_law_536 0 rfl ?_
  refine g_iconst C dL_law_538 (v := (nI 5)) (by decide) ?_
  refine g_iadd C dL_law_539 (v := (nI (6 * j + 5))) (nI_add _ _) ?_
  refine g_sld C hsx hbl hbA hL (i := 6 * j + 5) (by omega) dL_law_540 ?_
  refine g_i2l C dL_law_541 (v := (Int32.toInt64 (xs (6 * j + 5)))) rfl ?_
  refine g_ldc2 C (v := (4294967295)) 7 rfl dL_law_542 ?_
  refine g_land C dL_law_545 (v := ((Int32.toInt64 (xs (6 * j + 5))) &&& (4294967295))) rfl ?_
  refine g_lor C dL_law_546 (v := (jj (xs (6 * j + 4)) (xs (6 * j + 5)))) rfl ?_
  refine g_aload_n C dL_law_547 4 rfl rfl ?_
  refine g_callUW C hX (t_L_apply l hfl D ty s0 k0 p0 t0 x0 (xs (6 * j + 1)) (jj (xs (6 * j + 2)) (xs (6 * j + 3))) (jj (xs (6 * j + 4)) (xs (6 * j + 5))) oa fo) rfl gL_law_L_apply 5 (by decide +kernel) rfl ⟨rfl, rfl⟩ ⟨Nat.le_of_ble_eq_true rfl, Nat.le_of_ble_eq_true rfl⟩ (rest := []) hA [0, 31] [1, 2, 3, 4, 5, 6, 7, 8, 9, 10, 11, 12, 13, 14, 15, 16, 17, 18, 19, 20, 21, 22, 23, 24, 25, 26, 27, 28, 29, 30] rfl rfl rfl (wr := [(s0, .inr (2, [.ref sp, .ref sa, .ref sc])), (sp, .inl (ty.1, 11, .inl (zN p2))), (sa, .inl (ty.2.2, 10, .inl (zB al))), (sc, .inl (ty.2.2, 16, .inl (zB cs))), (k0, .inr (1, [.int (nI es.length), .ref kf, .ref ko, .ref ka, .ref kb, .ref kt, .ref kl, .ref kp])), (kf, .inl (ty.2.1, 2000, .inr (.inl fF))), (ko, .inl (ty.1, 2000, .inl oF)), (ka, .inl (ty.1, 2000, .inl aF)), (kb, .inl (ty.1, 2000, .inl bF)), (kt, .inl (ty.1, 8, .inl tF)), (kl, .inl (ty.1, 4096, .inl sF)), (kp, .inl (ty.1, 13, .inl pF)), (p0, .inr (0, [.int (nI nv), .ref py])), (py, .inl (ty.1, 30, .inl (zN pb))), (t0, .inr (3, [.int (nI tl), .long lf, .ref tz, .int pl, .int er])), (tz, .inl (ty.1, 300, .inl (zN tb))), (n0, .inr (5, [.int th, .ref np, .ref na, .int (nI (p2 10)), .ref nc, .int (nI es.length), .ref nf, .ref nq, .ref no, .ref nx, .ref ny, .ref nl, .ref nh, .ref nb, .ref nw, .int (nI nv), .ref nt, .int (nI tl), .int av, .int wr, .long lf])), (np, .inl (ty.1, 10, .inl (zN p2))), (na, .inl (ty.2.2, 10, .inl (zB al))), (nc, .inl (ty.2.2, 16, .inl (zB cs))), (nf, .inl (ty.2.1, 2000, .inr (.inl fM))), (nq, .inl (ty.1, 2000, .inl qM)), (no, .inl (ty.1, 2000, .inl oM)), (nx, .inl (ty.1, 2000, .inl aM)), (ny, .inl (ty.1, 2000, .inl bM)), (nl, .inl (ty.1, 1024, .inl lM)), (nh, .inl (ty.1, 2000, .inl hM)), (nb, .inl (ty.1, 8, .inl gM)), (nw, .inl (ty.1, 400, .inl (zN pb))), (nt, .inl (ty.1, 300, .inl (zN tb)))]) rfl rfl rfl (Nat.le_of_ble_eq_true rfl) dL_law_548 ⟨by rw [hRc]; omega, by rw [hRs]; omega⟩ rfl (g_kui (fun r w hr => ?_))
  rcases hr with ⟨k, hk, hok, rfl, rfl⟩ | ⟨hbad, rfl, rfl⟩
  · skip
    refine g_ws (ws' := [(x0, .inr (4, [.ref s0, .ref k0, .ref p0, .ref t0])), (s0, .inr (2, [.ref sp, .ref sa, .ref sc])), (sp, .inl (ty.1, 11, .inl (zN p2))), (sa, .inl (ty.2.2, 10, .inl (zB al))), (sc, .inl (ty.2.2, 16, .inl (zB cs))), (k0, .inr (1, [.int (nI es.length), .ref kf, .ref ko, .ref ka, .ref kb, .ref kt, .ref kl, .ref kp])), (kf, .inl (ty.2.1, 2000, .inr (.inl fF))), (ko, .inl (ty.1, 2000, .inl oF)), (ka, .inl (ty.1, 2000, .inl aF)), (kb, .inl (ty.1, 2000, .inl bF)), (kt, .inl (ty.1, 8, .inl tF)), (kl, .inl (ty.1, 4096, .inl sF)), (kp, .inl (ty.1, 13, .inl pF)), (p0, .inr (0, [.int (nI nv), .ref py])), (py, .inl (ty.1, 30, .inl (zN pb))), (t0, .inr (3, [.int (nI tl), .long lf, .ref tz, .int pl, .int er])), (tz, .inl (ty.1, 300, .inl (zN tb))), (n0, .inr (5, [.int th, .ref np, .ref na, .int (nI (p2 10)), .ref nc, .int (nI es.length), .ref nf, .ref nq, .ref no, .ref nx, .ref ny, .ref nl, .ref nh, .ref nb, .ref nw, .int (nI nv), .ref nt, .int (nI tl), .int av, .int wr, .long lf])), (np, .inl (ty.1, 10, .inl (zN p2))), (na, .inl (ty.2.2, 10, .inl (zB al))), (nc, .inl (ty.2.2, 16, .inl (zB cs))), (nf, .inl (ty.2.1, 2000, .inr (.inl fM))), (nq, .inl (ty.1, 2000, .inl qM)), (no, .inl (ty.1, 2000, .inl oM)), (nx, .inl (ty.1, 2000, .inl aM)), (ny, .inl (ty.1, 2000, .inl bM)), (nl, .inl (ty.1, 1024, .inl lM)), (nh, .inl (ty.1, 2000, .inl hM)), (nb, .inl (ty.1, 8, .inl gM)), (nw, .inl (ty.1, 400, .inl (zN pb))), (nt, .inl (ty.1, 300, .inl (zN tb))), (oa, .inl (ty.2.1, 1, .inr (.inl (vp_updL fo 0 (maF k (jj (xs (6 * j + 2)) (xs (6 * j + 3))) (jj (xs (6 * j + 4)) (xs (6 * j + 5))))))))]) [30, 0, 1, 2, 3, 4, 5, 6, 7, 8, 9, 10, 11, 12, 13, 14, 15, 16, 17, 18, 19, 20, 21, 22, 23, 24, 25, 26, 27, 28, 29, 31] rfl rfl rfl ?_
    refine g_istore C dL_law_551 (by decide) (lv' := [(5, .int (nI 0)), (4, .int (nI (6 * j))), (0, .ref b), (1, .ref x0), (2, .ref n0), (3, .ref oa)]) rfl ?_
    refine g_aload_n C dL_law_553 4 rfl rfl ?_
    refine g_aload_n C dL_law_554 2 rfl rfl ?_
    refine g_iload C dL_law_555 1 rfl ?_
    refine g_iconst C dL_law_557 (v := (nI 1)) (by decide) ?_
    refine g_iadd C dL_law_558 (v := (nI (6 * j + 1))) (nI_add _ _) ?_
    refine g_sld C hsx hbl hbA hL (i := 6 * j + 1) (by omega) dL_law_559 ?_
    refine g_aload_n C dL_law_560 2 rfl rfl ?_
    refine g_iload C dL_law_561 1 rfl ?_
    refine g_iconst C dL_law_563 (v := (nI 2)) (by decide) ?_
    refine g_iadd C dL_law_564 (v := (nI (6 * j + 2))) (nI_add _ _) ?_
    refine g_sld C hsx hbl hbA hL (i := 6 * j + 2) (by omega) dL_law_565 ?_
    refine g_i2l C dL_law_566 (v := (Int32.toInt64 (xs (6 * j + 2)))) rfl ?_
    refine g_bipush C dL_law_567 (v := (nI 32)) (by decide) ?_
    refine g_lshl C dL_law_569 (v := (j_shl (Int32.toInt64 (xs (6 * j + 2))) (nI 32))) rfl ?_
    refine g_aload_n C dL_law_570 2 rfl rfl ?_
    refine g_iload C dL_law_571 1 rfl ?_
    refine g_iconst C dL_law_573 (v := (nI 3)) (by decide) ?_
    refine g_iadd C dL_law_574 (v := (nI (6 * j + 3))) (nI_add _ _) ?_
    refine g_sld C hsx hbl hbA hL (i := 6 * j + 3) (by omega) dL_law_575 ?_
    refine g_i2l C dL_law_576 (v := (Int32.toInt64 (xs (6 * j + 3)))) rfl ?_
    refine g_ldc2 C (v := (4294967295)) 7 rfl dL_law_577 ?_
    refine g_land C dL_law_580 (v := ((Int32.toInt64 (xs (6 * j + 3))) &&& (4294967295))) rfl ?_
    refine g_lor C dL_law_581 (v := (jj (xs (6 * j + 2)) (xs (6 * j + 3)))) rfl ?_
    refine g_aload_n C dL_law_582 2 rfl rfl ?_
    refine g_iload C dL_law_583 1 rfl ?_
    refine g_iconst C dL_law_585 (v := (nI 4)) (by decide) ?_
    refine g_iadd C dL_law_586 (v := (nI (6 * j + 4))) (nI_add _ _) ?_
    refine g_sld C hsx hbl hbA hL (i := 6 * j + 4) (by omega) dL_law_587 ?_
    refine g_i2l C dL_law_588 (v := (Int32.toInt64 (xs (6 * j + 4)))) rfl ?_
    refine g_bipush C dL_law_589 (v := (nI 32)) (by decide) ?_
    refine g_lshl C dL_law_591 (v := (j_shl (Int32.toInt64 (xs (6 * j + 4))) (nI 32))) rfl ?_
    refine g_aload_n C dL_law_592 2 rfl rfl ?_
    refine g_iload C dL_law_593 1 rfl ?_
    refine g_iconst C dL_law_595 (v := (nI 5)) (by decide) ?_
    refine g_iadd C dL_law_596 (v := (nI (6 * j + 5))) (nI_add _ _) ?_
    refine g_sld C hsx hbl hbA hL (i := 6 * j + 5) (by omega) dL_law_597 ?_
    refine g_i2l C dL_law_598 (v := (Int32.toInt64 (xs (6 * j + 5)))) rfl ?_
    refine g_ldc2 C (v := (4294967295)) 7 rfl dL_law_599 ?_
    refine g_land C dL_law_602 (v := ((Int32.toInt64 (xs (6 * j + 5))) &&& (4294967295))) rfl ?_
    refine g_lor C dL_law_603 (v := (jj (xs (6 * j + 4)) (xs (6 * j + 5)))) rfl ?_
    refine g_callUV C ⟨g_X0_ok, trivial⟩ (t_X6_apply l D ty n0 np na nc nf nq no nx ny nl nh nb nw nt th (nI (p2 10)) (nI nv) (nI tl) av wr lf (nI es.length) (xs (6 * j + 1)) (jj (xs (6 * j + 2)) (xs (6 * j + 3))) (jj (xs (6 * j + 4)) (xs (6 * j + 5)))) rfl gL_law_X6_apply 3 (by decide +kernel) rfl ⟨rfl, rfl⟩ ⟨Nat.le_of_ble_eq_true rfl, Nat.le_of_ble_eq_true rfl⟩ (rest := []) (q0 := 17) rfl rfl hA [17] [0, 1, 2, 3, 4, 5, 6, 7, 8, 9, 10, 11, 12, 13, 14, 15, 16, 18, 19, 20, 21, 22, 23, 24, 25, 26, 27, 28, 29, 30, 31] rfl rfl rfl (wr := [(x0, .inr (4, [.ref s0, .ref k0, .ref p0, .ref t0])), (s0, .inr (2, [.ref sp, .ref sa, .ref sc])), (sp, .inl (ty.1, 11, .inl (zN p2))), (sa, .inl (ty.2.2, 10, .inl (zB al))), (sc, .inl (ty.2.2, 16, .inl (zB cs))), (k0, .inr (1, [.int (nI es.length), .ref kf, .ref ko, .ref ka, .ref kb, .ref kt, .ref kl, .ref kp])), (kf, .inl (ty.2.1, 2000, .inr (.inl fF))), (ko, .inl (ty.1, 2000, .inl oF)), (ka, .inl (ty.1, 2000, .inl aF)), (kb, .inl (ty.1, 2000, .inl bF)), (kt, .inl (ty.1, 8, .inl tF)), (kl, .inl (ty.1, 4096, .inl sF)), (kp, .inl (ty.1, 13, .inl pF)), (p0, .inr (0, [.int (nI nv), .ref py])), (py, .inl (ty.1, 30, .inl (zN pb))), (t0, .inr (3, [.int (nI tl), .long lf, .ref tz, .int pl, .int er])), (tz, .inl (ty.1, 300, .inl (zN tb))), (np, .inl (ty.1, 10, .inl (zN p2))), (na, .inl (ty.2.2, 10, .inl (zB al))), (nc, .inl (ty.2.2, 16, .inl (zB cs))), (nf, .inl (ty.2.1, 2000, .inr (.inl fM))), (nq, .inl (ty.1, 2000, .inl qM)), (no, .inl (ty.1, 2000, .inl oM)), (nx, .inl (ty.1, 2000, .inl aM)), (ny, .inl (ty.1, 2000, .inl bM)), (nl, .inl (ty.1, 1024, .inl lM)), (nh, .inl (ty.1, 2000, .inl hM)), (nb, .inl (ty.1, 8, .inl gM)), (nw, .inl (ty.1, 400, .inl (zN pb))), (nt, .inl (ty.1, 300, .inl (zN tb))), (oa, .inl (ty.2.1, 1, .inr (.inl (vp_updL fo 0 (maF k (jj (xs (6 * j + 2)) (xs (6 * j + 3))) (jj (xs (6 * j + 4)) (xs (6 * j + 5))))))))]) rfl rfl rfl (Nat.le_of_ble_eq_true rfl) dL_law_604 ⟨by rw [hRc]; omega, by rw [hRs]; omega⟩ rfl (g_kul (fun r w hr => ?_))
    rcases hr with ⟨k2, hk2, hok2, rfl, rfl⟩ | ⟨hbad2, rfl, rfl⟩
    · skip
      obtain rfl := nI_ij (by omega) (by omega) (hok.symm.trans hok2)
      refine g_ws (ws' := [(x0, .inr (4, [.ref s0, .ref k0, .ref p0, .ref t0])), (s0, .inr (2, [.ref sp, .ref sa, .ref sc])), (sp, .inl (ty.1, 11, .inl (zN p2))), (sa, .inl (ty.2.2, 10, .inl (zB al))), (sc, .inl (ty.2.2, 16, .inl (zB cs))), (k0, .inr (1, [.int (nI es.length), .ref kf, .ref ko, .ref ka, .ref kb, .ref kt, .ref kl, .ref kp])), (kf, .inl (ty.2.1, 2000, .inr (.inl fF))), (ko, .inl (ty.1, 2000, .inl oF)), (ka, .inl (ty.1, 2000, .inl aF)), (kb, .inl (ty.1, 2000, .inl bF)), (kt, .inl (ty.1, 8, .inl tF)), (kl, .inl (ty.1, 4096, .inl sF)), (kp, .inl (ty.1, 13, .inl pF)), (p0, .inr (0, [.int (nI nv), .ref py])), (py, .inl (ty.1, 30, .inl (zN pb))), (t0, .inr (3, [.int (nI tl), .long lf, .ref tz, .int pl, .int er])), (tz, .inl (ty.1, 300, .inl (zN tb))), (n0, .inr (5, [.int (nI 0), .ref np, .ref na, .int (nI (p2 10)), .ref nc, .int (nI es.length), .ref nf, .ref nq, .ref no, .ref nx, .ref ny, .ref nl, .ref nh, .ref nb, .ref nw, .int (nI nv), .ref nt, .int (nI tl), .int av, .int wr, .long lf])), (np, .inl (ty.1, 10, .inl (zN p2))), (na, .inl (ty.2.2, 10, .inl (zB al))), (nc, .inl (ty.2.2, 16, .inl (zB cs))), (nf, .inl (ty.2.1, 2000, .inr (.inl fM))), (nq, .inl (ty.1, 2000, .inl qM)), (no, .inl (ty.1, 2000, .inl oM)), (nx, .inl (ty.1, 2000, .inl aM)), (ny, .inl (ty.1, 2000, .inl bM)), (nl, .inl (ty.1, 1024, .inl lM)), (nh, .inl (ty.1, 2000, .inl hM)), (nb, .inl (ty.1, 8, .inl gM)), (nw, .inl (ty.1, 400, .inl (zN pb))), (nt, .inl (ty.1, 300, .inl (zN tb))), (oa, .inl (ty.2.1, 1, .inr (.inl (vp_updL fo 0 (maF k (jj (xs (6 * j + 2)) (xs (6 * j + 3))) (jj (xs (6 * j + 4)) (xs (6 * j + 5))))))))]) [0, 1, 2, 3, 4, 5, 6, 7, 8, 9, 10, 11, 12, 13, 14, 15, 16, 31, 17, 18, 19, 20, 21, 22, 23, 24, 25, 26, 27, 28, 29, 30] rfl rfl rfl ?_
      refine g_lstore C dL_law_607 (by decide) (lv' := [(6, .long (maF k (jj (xs (6 * j + 2)) (xs (6 * j + 3))) (jj (xs (6 * j + 4)) (xs (6 * j + 5))))), (5, .int (nI 0)), (4, .int (nI (6 * j))), (0, .ref b), (1, .ref x0), (2, .ref n0), (3, .ref oa)]) rfl ?_
      refine g_aload_n C dL_law_609 5 rfl rfl ?_
      refine g_callPV C ⟨g_X0_ok, trivial⟩ (t_X6_thrown l D ty n0 np na nc nf nq no nx ny nl nh nb nw nt (nI 0) (nI (p2 10)) (nI nv) (nI tl) av wr lf (nI es.length)) rfl gL_law_X6_thrown 0 (by decide +kernel) rfl ⟨rfl, rfl⟩ ⟨Nat.le_of_ble_eq_true rfl, Nat.le_of_ble_eq_true rfl⟩ (rest := []) (q0 := 17) rfl rfl [17] rfl (Nat.le_of_ble_eq_true rfl) dL_law_610 ⟨by rw [hRc]; omega, by rw [hRs]; omega⟩ rfl (g_ki (fun r hr => ?_))
      subst hr
      refine g_iload C dL_law_613 1 rfl ?_
      refine g_icmp_eqN C dL_law_615 (tgt := 620) (by decide) (by omega) (by omega) (fun h615 => ?_) (fun h615 => ?_)
      · skip
        refine g_iload C dL_law_620 1 rfl ?_
        refine g_if_neN C dL_law_622 (tgt := 636) (by decide) (by omega) (fun h622 => ?_) (fun h622 => ?_)
        · skip
          exact absurd rfl h622
        · skip
          refine g_aload_n C dL_law_625 6 rfl rfl ?_
          refine g_iconst C dL_law_626 (v := (nI 0)) (by decide) ?_
          refine g_lald C (v := (maF k (jj (xs (6 * j + 2)) (xs (6 * j + 3))) (jj (xs (6 * j + 4)) (xs (6 * j + 5))))) 31 rfl (by omega) (by omega) (pk_uLs) dL_law_627 ?_
          refine g_lload C dL_law_628 0 rfl ?_
          refine g_lcmp C dL_law_630 ?_
          refine g_if_eq C dL_law_631 (tgt := 636) (by decide) (fun h631 => ?_) (fun h631 => ?_)
          · skip
            refine g_goto C dL_law_636 (tgt := 1907) (by decide) ?_
            refine g_lv [2, 3, 4, 5, 6] rfl ?_
            refine g_wid (k0 := (40 + 2 * (j + 1))) (n0 := (27000 + 2030 * (j + 1))) (by omega) (by omega) ?_
            exact ih1907 p2 al cs es st fF oF aF bF tF sF pF fM qM oM aM bM lM hM gM nv pb tl tb lf pl er (nI 0) av wr (vp_updL fo 0 (maF k (jj (xs (6 * j + 2)) (xs (6 * j + 3))) (jj (xs (6 * j + 4)) (xs (6 * j + 5))))) (by omega) hp hw ht hmo hI hnv htl hb
          · skip
            exact absurd (lg_eq rfl) h631
      · skip
        exact absurd rfl h615
    · skip
      rw [hok, nI_toInt (by omega)] at hbad2
      omega
  · skip
    refine g_ws (ws' := [(x0, .inr (4, [.ref s0, .ref k0, .ref p0, .ref t0])), (s0, .inr (2, [.ref sp, .ref sa, .ref sc])), (sp, .inl (ty.1, 11, .inl (zN p2))), (sa, .inl (ty.2.2, 10, .inl (zB al))), (sc, .inl (ty.2.2, 16, .inl (zB cs))), (k0, .inr (1, [.int (nI es.length), .ref kf, .ref ko, .ref ka, .ref kb, .ref kt, .ref kl, .ref kp])), (kf, .inl (ty.2.1, 2000, .inr (.inl fF))), (ko, .inl (ty.1, 2000, .inl oF)), (ka, .inl (ty.1, 2000, .inl aF)), (kb, .inl (ty.1, 2000, .inl bF)), (kt, .inl (ty.1, 8, .inl tF)), (kl, .inl (ty.1, 4096, .inl sF)), (kp, .inl (ty.1, 13, .inl pF)), (p0, .inr (0, [.int (nI nv), .ref py])), (py, .inl (ty.1, 30, .inl (zN pb))), (t0, .inr (3, [.int (nI tl), .long lf, .ref tz, .int pl, .int er])), (tz, .inl (ty.1, 300, .inl (zN tb))), (n0, .inr (5, [.int th, .ref np, .ref na, .int (nI (p2 10)), .ref nc, .int (nI es.length), .ref nf, .ref nq, .ref no, .ref nx, .ref ny, .ref nl, .ref nh, .ref nb, .ref nw, .int (nI nv), .ref nt, .int (nI tl), .int av, .int wr, .long lf])), (np, .inl (ty.1, 10, .inl (zN p2))), (na, .inl (ty.2.2, 10, .inl (zB al))), (nc, .inl (ty.2.2, 16, .inl (zB cs))), (nf, .inl (ty.2.1, 2000, .inr (.inl fM))), (nq, .inl (ty.1, 2000, .inl qM)), (no, .inl (ty.1, 2000, .inl oM)), (nx, .inl (ty.1, 2000, .inl aM)), (ny, .inl (ty.1, 2000, .inl bM)), (nl, .inl (ty.1, 1024, .inl lM)), (nh, .inl (ty.1, 2000, .inl hM)), (nb, .inl (ty.1, 8, .inl gM)), (nw, .inl (ty.1, 400, .inl (zN pb))), (nt, .inl (ty.1, 300, .inl (zN tb))), (oa, .inl (ty.2.1, 1, .inr (.inl fo)))]) [30, 0, 1, 2, 3, 4, 5, 6, 7, 8, 9, 10, 11, 12, 13, 14, 15, 16, 17, 18, 19, 20, 21, 22, 23, 24, 25, 26, 27, 28, 29, 31] rfl rfl rfl ?_
    refine g_istore C dL_law_551 (by decide) (lv' := [(5, .int (nI 1)), (4, .int (nI (6 * j))), (0, .ref b), (1, .ref x0), (2, .ref n0), (3, .ref oa)]) rfl ?_
    refine g_aload_n C dL_law_553 4 rfl rfl ?_
    refine g_aload_n C dL_law_554 2 rfl rfl ?_
    refine g_iload C dL_law_555 1 rfl ?_
    refine g_iconst C dL_law_557 (v := (nI 1)) (by decide) ?_
    refine g_iadd C dL_law_558 (v := (nI (6 * j + 1))) (nI_add _ _) ?_
    refine g_sld C hsx hbl hbA hL (i := 6 * j + 1) (by omega) dL_law_559 ?_
    refine g_aload_n C dL_law_560 2 rfl rfl ?_
    refine g_iload C dL_law_561 1 rfl ?_
    refine g_iconst C dL_law_563 (v := (nI 2)) (by decide) ?_
    refine g_iadd C dL_law_564 (v := (nI (6 * j + 2))) (nI_add _ _) ?_
    refine g_sld C hsx hbl hbA hL (i := 6 * j + 2) (by omega) dL_law_565 ?_
    refine g_i2l C dL_law_566 (v := (Int32.toInt64 (xs (6 * j + 2)))) rfl ?_
    refine g_bipush C dL_law_567 (v := (nI 32)) (by decide) ?_
    refine g_lshl C dL_law_569 (v := (j_shl (Int32.toInt64 (xs (6 * j + 2))) (nI 32))) rfl ?_
    refine g_aload_n C dL_law_570 2 rfl rfl ?_
    refine g_iload C dL_law_571 1 rfl ?_
    refine g_iconst C dL_law_573 (v := (nI 3)) (by decide) ?_
    refine g_iadd C dL_law_574 (v := (nI (6 * j + 3))) (nI_add _ _) ?_
    refine g_sld C hsx hbl hbA hL (i := 6 * j + 3) (by omega) dL_law_575 ?_
    refine g_i2l C dL_law_576 (v := (Int32.toInt64 (xs (6 * j + 3)))) rfl ?_
    refine g_ldc2 C (v := (4294967295)) 7 rfl dL_law_577 ?_
    refine g_land C dL_law_580 (v := ((Int32.toInt64 (xs (6 * j + 3))) &&& (4294967295))) rfl ?_
    refine g_lor C dL_law_581 (v := (jj (xs (6 * j + 2)) (xs (6 * j + 3)))) rfl ?_
    refine g_aload_n C dL_law_582 2 rfl rfl ?_
    refine g_iload C dL_law_583 1 rfl ?_
    refine g_iconst C dL_law_585 (v := (nI 4)) (by decide) ?_
    refine g_iadd C dL_law_586 (v := (nI (6 * j + 4))) (nI_add _ _) ?_
    refine g_sld C hsx hbl hbA hL (i := 6 * j + 4) (by omega) dL_law_587 ?_
    refine g_i2l C dL_law_588 (v := (Int32.toInt64 (xs (6 * j + 4)))) rfl ?_
    refine g_bipush C dL_law_589 (v := (nI 32)) (by decide) ?_
    refine g_lshl C dL_law_591 (v := (j_shl (Int32.toInt64 (xs (6 * j + 4))) (nI 32))) rfl ?_
    refine g_aload_n C dL_law_592 2 rfl rfl ?_
    refine g_iload C dL_law_593 1 rfl ?_
    refine g_iconst C dL_law_595 (v := (nI 5)) (by decide) ?_
    refine g_iadd C dL_law_596 (v := (nI (6 * j + 5))) (nI_add _ _) ?_
    refine g_sld C hsx hbl hbA hL (i := 6 * j + 5) (by omega) dL_law_597 ?_
    refine g_i2l C dL_law_598 (v := (Int32.toInt64 (xs (6 * j + 5)))) rfl ?_
    refine g_ldc2 C (v := (4294967295)) 7 rfl dL_law_599 ?_
    refine g_land C dL_law_602 (v := ((Int32.toInt64 (xs (6 * j + 5))) &&& (4294967295))) rfl ?_
    refine g_lor C dL_law_603 (v := (jj (xs (6 * j + 4)) (xs (6 * j + 5)))) rfl ?_
    refine g_callUV C ⟨g_X0_ok, trivial⟩ (t_X6_apply l D ty n0 np na nc nf nq no nx ny nl nh nb nw nt th (nI (p2 10)) (nI nv) (nI tl) av wr lf (nI es.length) (xs (6 * j + 1)) (jj (xs (6 * j + 2)) (xs (6 * j + 3))) (jj (xs (6 * j + 4)) (xs (6 * j + 5)))) rfl gL_law_X6_apply 3 (by decide +kernel) rfl ⟨rfl, rfl⟩ ⟨Nat.le_of_ble_eq_true rfl, Nat.le_of_ble_eq_true rfl⟩ (rest := []) (q0 := 17) rfl rfl hA [17] [0, 1, 2, 3, 4, 5, 6, 7, 8, 9, 10, 11, 12, 13, 14, 15, 16, 18, 19, 20, 21, 22, 23, 24, 25, 26, 27, 28, 29, 30, 31] rfl rfl rfl (wr := [(x0, .inr (4, [.ref s0, .ref k0, .ref p0, .ref t0])), (s0, .inr (2, [.ref sp, .ref sa, .ref sc])), (sp, .inl (ty.1, 11, .inl (zN p2))), (sa, .inl (ty.2.2, 10, .inl (zB al))), (sc, .inl (ty.2.2, 16, .inl (zB cs))), (k0, .inr (1, [.int (nI es.length), .ref kf, .ref ko, .ref ka, .ref kb, .ref kt, .ref kl, .ref kp])), (kf, .inl (ty.2.1, 2000, .inr (.inl fF))), (ko, .inl (ty.1, 2000, .inl oF)), (ka, .inl (ty.1, 2000, .inl aF)), (kb, .inl (ty.1, 2000, .inl bF)), (kt, .inl (ty.1, 8, .inl tF)), (kl, .inl (ty.1, 4096, .inl sF)), (kp, .inl (ty.1, 13, .inl pF)), (p0, .inr (0, [.int (nI nv), .ref py])), (py, .inl (ty.1, 30, .inl (zN pb))), (t0, .inr (3, [.int (nI tl), .long lf, .ref tz, .int pl, .int er])), (tz, .inl (ty.1, 300, .inl (zN tb))), (np, .inl (ty.1, 10, .inl (zN p2))), (na, .inl (ty.2.2, 10, .inl (zB al))), (nc, .inl (ty.2.2, 16, .inl (zB cs))), (nf, .inl (ty.2.1, 2000, .inr (.inl fM))), (nq, .inl (ty.1, 2000, .inl qM)), (no, .inl (ty.1, 2000, .inl oM)), (nx, .inl (ty.1, 2000, .inl aM)), (ny, .inl (ty.1, 2000, .inl bM)), (nl, .inl (ty.1, 1024, .inl lM)), (nh, .inl (ty.1, 2000, .inl hM)), (nb, .inl (ty.1, 8, .inl gM)), (nw, .inl (ty.1, 400, .inl (zN pb))), (nt, .inl (ty.1, 300, .inl (zN tb))), (oa, .inl (ty.2.1, 1, .inr (.inl fo)))]) rfl rfl rfl (Nat.le_of_ble_eq_true rfl) dL_law_604 ⟨by rw [hRc]; omega, by rw [hRs]; omega⟩ rfl (g_kul (fun r w hr => ?_))
    rcases hr with ⟨k2, hk2, hok2, rfl, rfl⟩ | ⟨hbad2, rfl, rfl⟩
    · skip
      rw [hok2, nI_toInt (by omega)] at hbad
      omega
    · skip
      refine g_ws (ws' := [(x0, .inr (4, [.ref s0, .ref k0, .ref p0, .ref t0])), (s0, .inr (2, [.ref sp, .ref sa, .ref sc])), (sp, .inl (ty.1, 11, .inl (zN p2))), (sa, .inl (ty.2.2, 10, .inl (zB al))), (sc, .inl (ty.2.2, 16, .inl (zB cs))), (k0, .inr (1, [.int (nI es.length), .ref kf, .ref ko, .ref ka, .ref kb, .ref kt, .ref kl, .ref kp])), (kf, .inl (ty.2.1, 2000, .inr (.inl fF))), (ko, .inl (ty.1, 2000, .inl oF)), (ka, .inl (ty.1, 2000, .inl aF)), (kb, .inl (ty.1, 2000, .inl bF)), (kt, .inl (ty.1, 8, .inl tF)), (kl, .inl (ty.1, 4096, .inl sF)), (kp, .inl (ty.1, 13, .inl pF)), (p0, .inr (0, [.int (nI nv), .ref py])), (py, .inl (ty.1, 30, .inl (zN pb))), (t0, .inr (3, [.int (nI tl), .long lf, .ref tz, .int pl, .int er])), (tz, .inl (ty.1, 300, .inl (zN tb))), (n0, .inr (5, [.int (nI 1), .ref np, .ref na, .int (nI (p2 10)), .ref nc, .int (nI es.length), .ref nf, .ref nq, .ref no, .ref nx, .ref ny, .ref nl, .ref nh, .ref nb, .ref nw, .int (nI nv), .ref nt, .int (nI tl), .int av, .int wr, .long lf])), (np, .inl (ty.1, 10, .inl (zN p2))), (na, .inl (ty.2.2, 10, .inl (zB al))), (nc, .inl (ty.2.2, 16, .inl (zB cs))), (nf, .inl (ty.2.1, 2000, .inr (.inl fM))), (nq, .inl (ty.1, 2000, .inl qM)), (no, .inl (ty.1, 2000, .inl oM)), (nx, .inl (ty.1, 2000, .inl aM)), (ny, .inl (ty.1, 2000, .inl bM)), (nl, .inl (ty.1, 1024, .inl lM)), (nh, .inl (ty.1, 2000, .inl hM)), (nb, .inl (ty.1, 8, .inl gM)), (nw, .inl (ty.1, 400, .inl (zN pb))), (nt, .inl (ty.1, 300, .inl (zN tb))), (oa, .inl (ty.2.1, 1, .inr (.inl fo)))]) [0, 1, 2, 3, 4, 5, 6, 7, 8, 9, 10, 11, 12, 13, 14, 15, 16, 31, 17, 18, 19, 20, 21, 22, 23, 24, 25, 26, 27, 28, 29, 30] rfl rfl rfl ?_
      refine g_lstore C dL_law_607 (by decide) (lv' := [(6, .long 0), (5, .int (nI 1)), (4, .int (nI (6 * j))), (0, .ref b), (1, .ref x0), (2, .ref n0), (3, .ref oa)]) rfl ?_
      refine g_aload_n C dL_law_609 5 rfl rfl ?_
      refine g_callPV C ⟨g_X0_ok, trivial⟩ (t_X6_thrown l D ty n0 np na nc nf nq no nx ny nl nh nb nw nt (nI 1) (nI (p2 10)) (nI nv) (nI tl) av wr lf (nI es.length)) rfl gL_law_X6_thrown 0 (by decide +kernel) rfl ⟨rfl, rfl⟩ ⟨Nat.le_of_ble_eq_true rfl, Nat.le_of_ble_eq_true rfl⟩ (rest := []) (q0 := 17) rfl rfl [17] rfl (Nat.le_of_ble_eq_true rfl) dL_law_610 ⟨by rw [hRc]; omega, by rw [hRs]; omega⟩ rfl (g_ki (fun r hr => ?_))
      subst hr
      refine g_iload C dL_law_613 1 rfl ?_
      refine g_icmp_eqN C dL_law_615 (tgt := 620) (by decide) (by omega) (by omega) (fun h615 => ?_) (fun h615 => ?_)
      · skip
        refine g_iload C dL_law_620 1 rfl ?_
        refine g_if_neN C dL_law_622 (tgt := 636) (by decide) (by omega) (fun h622 => ?_) (fun h622 => ?_)
        · skip
          refine g_goto C dL_law_636 (tgt := 1907) (by decide) ?_
          refine g_lv [2, 3, 4, 5, 6] rfl ?_
          refine g_wid (k0 := (40 + 2 * (j + 1))) (n0 := (27000 + 2030 * (j + 1))) (by omega) (by omega) ?_
          exact ih1907 p2 al cs es st fF oF aF bF tF sF pF fM qM oM aM bM lM hM gM nv pb tl tb lf pl er (nI 1) av wr fo (by omega) hp hw ht hmo hI hnv htl hb
        · skip
          exact absurd h622 (by decide)
      · skip
        exact absurd rfl h615

set_option maxHeartbeats 4000000 in
set_option maxRecDepth 100000 in
theorem lc_inverse {p : Program} {e : Env} {s : State} {m : MethodId} {args : Array Value} {below : List Frame} {meth : Method} {c : Code} {Q : State → Prop} {A : Nat → Prop} (l : Launch) (hfl : l.stackTraces = false) (D : va_G) (ty : g_T3) (C : g_Cx (g_IU A D s) p s m args c code 9 A D ty RL wsL_law) (hA : ∀ q, s.heap.size ≤ q → A q) (hX : g_Xok g_XT ∧ g_XT A s) {b L : Nat} {xs : Nat → Int32} (hsx : va_X b L xs s s.heap) (hbl : b < s.heap.size) (hbA : ¬ A b) (hL : L ≤ 3072) (x0 s0 sp sa sc k0 kf ko ka kb kt kl kp p0 py t0 tz n0 np na nc nf nq no nx ny nl nh nb nw nt oa : Nat) (j : Nat) (hj : 6 * j + 6 ≤ L) (p2 : Nat → Nat) (al cs : Nat → Bool) (es : List Ent) (st : Nat → Nat) (fF : Nat → Int64) (oF aF bF tF sF pF : Nat → Int32) (fM : Nat → Int64) (qM oM aM bM lM hM gM : Nat → Int32) (nv : Nat) (pb : Nat → Nat) (tl : Nat) (tb : Nat → Nat) (lf : Int64) (pl er th av wr : Int32) (fo : Nat → Int64) (hp : (∀ k, k < 10 → 1 ≤ p2 k ∧ p2 k ≤ 5) ∧ p2 10 ≤ 5) (hw : rowOk es fF oF aF bF sF) (ht : ∀ j, j < 8 → tF j = nI (st j)) (hmo : modOk es fM qM oM aM bM lM hM) (hI : stI es st) (hnv : nv ≤ 30) (htl : tl ≤ 300) (hb : ∀ i, tb i < 256) (ih1907 : ∀ (p2 : Nat → Nat) (al cs : Nat → Bool) (es : List Ent) (st : Nat → Nat) (fF : Nat → Int64) (oF aF bF tF sF pF : Nat → Int32) (fM : Nat → Int64) (qM oM aM bM lM hM gM : Nat → Int32) (nv : Nat) (pb : Nat → Nat) (tl : Nat) (tb : Nat → Nat) (lf : Int64) (pl er th av wr : Int32) (fo : Nat → Int64) , 0 < 1 → ((∀ k, k < 10 → 1 ≤ p2 k ∧ p2 k ≤ 5) ∧ p2 10 ≤ 5) → (rowOk es fF oF aF bF sF) → (∀ j, j < 8 → tF j = nI (st j)) → (modOk es fM qM oM aM bM lM hM) → (stI es st) → (nv ≤ 30) → (tl ≤ 300) → (∀ i, tb i < 256) → gG (g_IU A D s) p l e room_1 s m args below meth c Q 9 (40 + 2 * (j + 1)) (27000 + 2030 * (j + 1)) 1907 [(4, .int (nI (6 * j))), (0, .ref b), (1, .ref x0), (2, .ref n0), (3, .ref oa)] [] [(x0, .inr (4, [.ref s0, .ref k0, .ref p0, .ref t0])), (s0, .inr (2, [.ref sp, .ref sa, .ref sc])), (sp, .inl (ty.1, 11, .inl (zN p2))), (sa, .inl (ty.2.2, 10, .inl (zB al))), (sc, .inl (ty.2.2, 16, .inl (zB cs))), (k0, .inr (1, [.int (nI es.length), .ref kf, .ref ko, .ref ka, .ref kb, .ref kt, .ref kl, .ref kp])), (kf, .inl (ty.2.1, 2000, .inr (.inl fF))), (ko, .inl (ty.1, 2000, .inl oF)), (ka, .inl (ty.1, 2000, .inl aF)), (kb, .inl (ty.1, 2000, .inl bF)), (kt, .inl (ty.1, 8, .inl tF)), (kl, .inl (ty.1, 4096, .inl sF)), (kp, .inl (ty.1, 13, .inl pF)), (p0, .inr (0, [.int (nI nv), .ref py])), (py, .inl (ty.1, 30, .inl (zN pb))), (t0, .inr (3, [.int (nI tl), .long lf, .ref tz, .int pl, .int er])), (tz, .inl (ty.1, 300, .inl (zN tb))), (n0, .inr (5, [.int th, .ref np, .ref na, .int (nI (p2 10)), .ref nc, .int (nI es.length), .ref nf, .ref nq, .ref no, .ref nx, .ref ny, .ref nl, .ref nh, .ref nb, .ref nw, .int (nI nv), .ref nt, .int (nI tl), .int av, .int wr, .long lf])), (np, .inl (ty.1, 10, .inl (zN p2))), (na, .inl (ty.2.2, 10, .inl (zB al))), (nc, .inl (ty.2.2, 16, .inl (zB cs))), (nf, .inl (ty.2.1, 2000, .inr (.inl fM))), (nq, .inl (ty.1, 2000, .inl qM)), (no, .inl (ty.1, 2000, .inl oM)), (nx, .inl (ty.1, 2000, .inl aM)), (ny, .inl (ty.1, 2000, .inl bM)), (nl, .inl (ty.1, 1024, .inl lM)), (nh, .inl (ty.1, 2000, .inl hM)), (nb, .inl (ty.1, 8, .inl gM)), (nw, .inl (ty.1, 400, .inl (zN pb))), (nt, .inl (ty.1, 300, .inl (zN tb))), (oa, .inl (ty.2.1, 1, .inr (.inl fo)))]) : gG (g_IU A D s) p l e room_1 s m args below meth c Q 9 (40 + 2 * j) (27000 + 2030 * j) 741 [(4, .int (nI (6 * j))), (0, .ref b), (1, .ref x0), (2, .ref n0), (3, .ref oa)] [] [(x0, .inr (4, [.ref s0, .ref k0, .ref p0, .ref t0])), (s0, .inr (2, [.ref sp, .ref sa, .ref sc])), (sp, .inl (ty.1, 11, .inl (zN p2))), (sa, .inl (ty.2.2, 10, .inl (zB al))), (sc, .inl (ty.2.2, 16, .inl (zB cs))), (k0, .inr (1, [.int (nI es.length), .ref kf, .ref ko, .ref ka, .ref kb, .ref kt, .ref kl, .ref kp])), (kf, .inl (ty.2.1, 2000, .inr (.inl fF))), (ko, .inl (ty.1, 2000, .inl oF)), (ka, .inl (ty.1, 2000, .inl aF)), (kb, .inl (ty.1, 2000, .inl bF)), (kt, .inl (ty.1, 8, .inl tF)), (kl, .inl (ty.1, 4096, .inl sF)), (kp, .inl (ty.1, 13, .inl pF)), (p0, .inr (0, [.int (nI nv), .ref py])), (py, .inl (ty.1, 30, .inl (zN pb))), (t0, .inr (3, [.int (nI tl), .long lf, .ref tz, .int pl, .int er])), (tz, .inl (ty.1, 300, .inl (zN tb))), (n0, .inr (5, [.int th, .ref np, .ref na, .int (nI (p2 10)), .ref nc, .int (nI es.length), .ref nf, .ref nq, .ref no, .ref nx, .ref ny, .ref nl, .ref nh, .ref nb, .ref nw, .int (nI nv), .ref nt, .int (nI tl), .int av, .int wr, .long lf])), (np, .inl (ty.1, 10, .inl (zN p2))), (na, .inl (ty.2.2, 10, .inl (zB al))), (nc, .inl (ty.2.2, 16, .inl (zB cs))), (nf, .inl (ty.2.1, 2000, .inr (.inl fM))), (nq, .inl (ty.1, 2000, .inl qM)), (no, .inl (ty.1, 2000, .inl oM)), (nx, .inl (ty.1, 2000, .inl aM)), (ny, .inl (ty.1, 2000, .inl bM)), (nl, .inl (ty.1, 1024, .inl lM)), (nh, .inl (ty.1, 2000, .inl hM)), (nb, .inl (ty.1, 8, .inl gM)), (nw, .inl (ty.1, 400, .inl (zN pb))), (nt, .inl (ty.1, 300, .inl (zN tb))), (oa, .inl (ty.2.1, 1, .inr (.inl fo)))] := by
  have hRc : room_1.cells = 601024 := rfl
  have hRs : room_1.slots = 7293034 := rfl
  have hlen : es.length ≤ 2000 := hI.2.2.2.2
  refine g_aload_n C dL_law_741 2 rfl rfl ?_
  refine g_aload_n C dL_law_742 1 rfl rfl ?_
  refine g_iload C dL_law_743 0 rfl ?_
  refine g_iconst C dL_law_745 (v := (nI 1)) (by decide) ?_
  refine g_iadd C dL_law_746 (v := (nI (6 * j + 1))) (nI_add _ _) ?_
  refine g_sld C hsx hbl hbA hL (i := 6 * j + 1) (by omega) dL_law_747 ?_
  refine g_i2l C dL_law_748 (v := (Int32.toInt64 (xs (6 * j + 1)))) rfl ?_
  refine g_bipush C dL_law_749 (v := (nI 32)) (by decide) ?_
  refine g_lshl C dL_law_751 (v := (j_shl (Int32.toInt64 (xs (6 * j + 1))) (nI 32))) rfl ?_
  refine g_aload_n C dL_law_752 1 rfl rfl ?_
  refine g_iload C dL_law_753 0 rfl ?_
  refine g_iconst C dL_law_755 (v := (nI 2)) (by decide) ?_
  refine g_iadd C dL_law_756 (v := (nI (6 * j + 2))) (nI_add _ _) ?_
  refine g_sld C hsx hbl hbA hL (i := 6 * j + 2) (by omega) dL_law_757 ?_
  refine g_i2l C dL_law_758 (v := (Int32.toInt64 (xs (6 * j + 2)))) rfl ?_
  refine g_ldc2 C (v := (4294967295)) 7 rfl dL_law_759 ?_
  refine g_land C dL_law_762 (v := ((Int32.toInt64 (xs (6 * j + 2))) &&& (4294967295))) rfl ?_
  refine g_lor C dL_law_763 (v := (jj (xs (6 * j + 1)) (xs (6 * j + 2)))) rfl ?_
  refine g_aload_n C dL_law_764 4 rfl rfl ?_
  refine g_callUW C hX (t_L_inverse l hfl D ty s0 k0 p0 t0 x0 (jj (xs (6 * j + 1)) (xs (6 * j + 2))) oa fo) rfl gL_law_L_inverse 3 (by decide +kernel) rfl ⟨rfl, rfl⟩ ⟨Nat.le_of_ble_eq_true rfl, Nat.le_of_ble_eq_true rfl⟩ (rest := []) hA [0, 31] [1, 2, 3, 4, 5, 6, 7, 8, 9, 10, 11, 12, 13, 14, 15, 16, 17, 18, 19, 20, 21, 22, 23, 24, 25, 26, 27, 28, 29, 30] rfl rfl rfl (wr := [(s0, .inr (2, [.ref sp, .ref sa, .ref sc])), (sp, .inl (ty.1, 11, .inl (zN p2))), (sa, .inl (ty.2.2, 10, .inl (zB al))), (sc, .inl (ty.2.2, 16, .inl (zB cs))), (k0, .inr (1, [.int (nI es.length), .ref kf, .ref ko, .ref ka, .ref kb, .ref kt, .ref kl, .ref kp])), (kf, .inl (ty.2.1, 2000, .inr (.inl fF))), (ko, .inl (ty.1, 2000, .inl oF)), (ka, .inl (ty.1, 2000, .inl aF)), (kb, .inl (ty.1, 2000, .inl bF)), (kt, .inl (ty.1, 8, .inl tF)), (kl, .inl (ty.1, 4096, .inl sF)), (kp, .inl (ty.1, 13, .inl pF)), (p0, .inr (0, [.int (nI nv), .ref py])), (py, .inl (ty.1, 30, .inl (zN pb))), (t0, .inr (3, [.int (nI tl), .long lf, .ref tz, .int pl, .int er])), (tz, .inl (ty.1, 300, .inl (zN tb))), (n0, .inr (5, [.int th, .ref np, .ref na, .int (nI (p2 10)), .ref nc, .int (nI es.length), .ref nf, .ref nq, .ref no, .ref nx, .ref ny, .ref nl, .ref nh, .ref nb, .ref nw, .int (nI nv), .ref nt, .int (nI tl), .int av, .int wr, .long lf])), (np, .inl (ty.1, 10, .inl (zN p2))), (na, .inl (ty.2.2, 10, .inl (zB al))), (nc, .inl (ty.2.2, 16, .inl (zB cs))), (nf, .inl (ty.2.1, 2000, .inr (.inl fM))), (nq, .inl (ty.1, 2000, .inl qM)), (no, .inl (ty.1, 2000, .inl oM)), (nx, .inl (ty.1, 2000, .inl aM)), (ny, .inl (ty.1, 2000, .inl bM)), (nl, .inl (ty.1, 1024, .inl lM)), (nh, .inl (ty.1, 2000, .inl hM)), (nb, .inl (ty.1, 8, .inl gM)), (nw, .inl (ty.1, 400, .inl (zN pb))), (nt, .inl (ty.1, 300, .inl (zN tb)))]) rfl rfl rfl (Nat.le_of_ble_eq_true rfl) dL_law_765 ⟨by rw [hRc]; omega, by rw [hRs]; omega⟩ rfl (g_kui (fun r w hr => ?_))
  rcases hr with ⟨h16, rfl, rfl⟩ | ⟨hbad, rfl, rfl⟩
  · skip
    refine g_ws (ws' := [(x0, .inr (4, [.ref s0, .ref k0, .ref p0, .ref t0])), (s0, .inr (2, [.ref sp, .ref sa, .ref sc])), (sp, .inl (ty.1, 11, .inl (zN p2))), (sa, .inl (ty.2.2, 10, .inl (zB al))), (sc, .inl (ty.2.2, 16, .inl (zB cs))), (k0, .inr (1, [.int (nI es.length), .ref kf, .ref ko, .ref ka, .ref kb, .ref kt, .ref kl, .ref kp])), (kf, .inl (ty.2.1, 2000, .inr (.inl fF))), (ko, .inl (ty.1, 2000, .inl oF)), (ka, .inl (ty.1, 2000, .inl aF)), (kb, .inl (ty.1, 2000, .inl bF)), (kt, .inl (ty.1, 8, .inl tF)), (kl, .inl (ty.1, 4096, .inl sF)), (kp, .inl (ty.1, 13, .inl pF)), (p0, .inr (0, [.int (nI nv), .ref py])), (py, .inl (ty.1, 30, .inl (zN pb))), (t0, .inr (3, [.int (nI tl), .long lf, .ref tz, .int pl, .int er])), (tz, .inl (ty.1, 300, .inl (zN tb))), (n0, .inr (5, [.int th, .ref np, .ref na, .int (nI (p2 10)), .ref nc, .int (nI es.length), .ref nf, .ref nq, .ref no, .ref nx, .ref ny, .ref nl, .ref nh, .ref nb, .ref nw, .int (nI nv), .ref nt, .int (nI tl), .int av, .int wr, .long lf])), (np, .inl (ty.1, 10, .inl (zN p2))), (na, .inl (ty.2.2, 10, .inl (zB al))), (nc, .inl (ty.2.2, 16, .inl (zB cs))), (nf, .inl (ty.2.1, 2000, .inr (.inl fM))), (nq, .inl (ty.1, 2000, .inl qM)), (no, .inl (ty.1, 2000, .inl oM)), (nx, .inl (ty.1, 2000, .inl aM)), (ny, .inl (ty.1, 2000, .inl bM)), (nl, .inl (ty.1, 1024, .inl lM)), (nh, .inl (ty.1, 2000, .inl hM)), (nb, .inl (ty.1, 8, .inl gM)), (nw, .inl (ty.1, 400, .inl (zN pb))), (nt, .inl (ty.1, 300, .inl (zN tb))), (oa, .inl (ty.2.1, 1, .inr (.inl (vp_updL fo 0 (ivN (jj (xs (6 * j + 1)) (xs (6 * j + 2))) 16)))))]) [30, 0, 1, 2, 3, 4, 5, 6, 7, 8, 9, 10, 11, 12, 13, 14, 15, 16, 17, 18, 19, 20, 21, 22, 23, 24, 25, 26, 27, 28, 29, 31] rfl rfl rfl ?_
    refine g_istore C dL_law_768 (by decide) (lv' := [(5, .int (nI 0)), (4, .int (nI (6 * j))), (0, .ref b), (1, .ref x0), (2, .ref n0), (3, .ref oa)]) rfl ?_
    refine g_aload_n C dL_law_770 4 rfl rfl ?_
    refine g_aload_n C dL_law_771 2 rfl rfl ?_
    refine g_iload C dL_law_772 1 rfl ?_
    refine g_iconst C dL_law_774 (v := (nI 1)) (by decide) ?_
    refine g_iadd C dL_law_775 (v := (nI (6 * j + 1))) (nI_add _ _) ?_
    refine g_sld C hsx hbl hbA hL (i := 6 * j + 1) (by omega) dL_law_776 ?_
    refine g_i2l C dL_law_777 (v := (Int32.toInt64 (xs (6 * j + 1)))) rfl ?_
    refine g_bipush C dL_law_778 (v := (nI 32)) (by decide) ?_
    refine g_lshl C dL_law_780 (v := (j_shl (Int32.toInt64 (xs (6 * j + 1))) (nI 32))) rfl ?_
    refine g_aload_n C dL_law_781 2 rfl rfl ?_
    refine g_iload C dL_law_782 1 rfl ?_
    refine g_iconst C dL_law_784 (v := (nI 2)) (by decide) ?_
    refine g_iadd C dL_law_785 (v := (nI (6 * j + 2))) (nI_add _ _) ?_
    refine g_sld C hsx hbl hbA hL (i := 6 * j + 2) (by omega) dL_law_786 ?_
    refine g_i2l C dL_law_787 (v := (Int32.toInt64 (xs (6 * j + 2)))) rfl ?_
    refine g_ldc2 C (v := (4294967295)) 7 rfl dL_law_788 ?_
    refine g_land C dL_law_791 (v := ((Int32.toInt64 (xs (6 * j + 2))) &&& (4294967295))) rfl ?_
    refine g_lor C dL_law_792 (v := (jj (xs (6 * j + 1)) (xs (6 * j + 2)))) rfl ?_
    refine g_callUV C ⟨g_X0_ok, trivial⟩ (t_X6_inverse l D ty n0 np na nc nf nq no nx ny nl nh nb nw nt th (nI (p2 10)) (nI nv) (nI tl) av wr lf (nI es.length) (jj (xs (6 * j + 1)) (xs (6 * j + 2)))) rfl gL_law_X6_inverse 1 (by decide +kernel) rfl ⟨rfl, rfl⟩ ⟨Nat.le_of_ble_eq_true rfl, Nat.le_of_ble_eq_true rfl⟩ (rest := []) (q0 := 17) rfl rfl hA [17] [0, 1, 2, 3, 4, 5, 6, 7, 8, 9, 10, 11, 12, 13, 14, 15, 16, 18, 19, 20, 21, 22, 23, 24, 25, 26, 27, 28, 29, 30, 31] rfl rfl rfl (wr := [(x0, .inr (4, [.ref s0, .ref k0, .ref p0, .ref t0])), (s0, .inr (2, [.ref sp, .ref sa, .ref sc])), (sp, .inl (ty.1, 11, .inl (zN p2))), (sa, .inl (ty.2.2, 10, .inl (zB al))), (sc, .inl (ty.2.2, 16, .inl (zB cs))), (k0, .inr (1, [.int (nI es.length), .ref kf, .ref ko, .ref ka, .ref kb, .ref kt, .ref kl, .ref kp])), (kf, .inl (ty.2.1, 2000, .inr (.inl fF))), (ko, .inl (ty.1, 2000, .inl oF)), (ka, .inl (ty.1, 2000, .inl aF)), (kb, .inl (ty.1, 2000, .inl bF)), (kt, .inl (ty.1, 8, .inl tF)), (kl, .inl (ty.1, 4096, .inl sF)), (kp, .inl (ty.1, 13, .inl pF)), (p0, .inr (0, [.int (nI nv), .ref py])), (py, .inl (ty.1, 30, .inl (zN pb))), (t0, .inr (3, [.int (nI tl), .long lf, .ref tz, .int pl, .int er])), (tz, .inl (ty.1, 300, .inl (zN tb))), (np, .inl (ty.1, 10, .inl (zN p2))), (na, .inl (ty.2.2, 10, .inl (zB al))), (nc, .inl (ty.2.2, 16, .inl (zB cs))), (nf, .inl (ty.2.1, 2000, .inr (.inl fM))), (nq, .inl (ty.1, 2000, .inl qM)), (no, .inl (ty.1, 2000, .inl oM)), (nx, .inl (ty.1, 2000, .inl aM)), (ny, .inl (ty.1, 2000, .inl bM)), (nl, .inl (ty.1, 1024, .inl lM)), (nh, .inl (ty.1, 2000, .inl hM)), (nb, .inl (ty.1, 8, .inl gM)), (nw, .inl (ty.1, 400, .inl (zN pb))), (nt, .inl (ty.1, 300, .inl (zN tb))), (oa, .inl (ty.2.1, 1, .inr (.inl (vp_updL fo 0 (ivN (jj (xs (6 * j + 1)) (xs (6 * j + 2))) 16)))))]) rfl rfl rfl (Nat.le_of_ble_eq_true rfl) dL_law_793 ⟨by rw [hRc]; omega, by rw [hRs]; omega⟩ rfl (g_kul (fun r w hr => ?_))
    rcases hr with ⟨h162, rfl, rfl⟩ | ⟨hbad2, rfl, rfl⟩
    · skip
      refine g_ws (ws' := [(x0, .inr (4, [.ref s0, .ref k0, .ref p0, .ref t0])), (s0, .inr (2, [.ref sp, .ref sa, .ref sc])), (sp, .inl (ty.1, 11, .inl (zN p2))), (sa, .inl (ty.2.2, 10, .inl (zB al))), (sc, .inl (ty.2.2, 16, .inl (zB cs))), (k0, .inr (1, [.int (nI es.length), .ref kf, .ref ko, .ref ka, .ref kb, .ref kt, .ref kl, .ref kp])), (kf, .inl (ty.2.1, 2000, .inr (.inl fF))), (ko, .inl (ty.1, 2000, .inl oF)), (ka, .inl (ty.1, 2000, .inl aF)), (kb, .inl (ty.1, 2000, .inl bF)), (kt, .inl (ty.1, 8, .inl tF)), (kl, .inl (ty.1, 4096, .inl sF)), (kp, .inl (ty.1, 13, .inl pF)), (p0, .inr (0, [.int (nI nv), .ref py])), (py, .inl (ty.1, 30, .inl (zN pb))), (t0, .inr (3, [.int (nI tl), .long lf, .ref tz, .int pl, .int er])), (tz, .inl (ty.1, 300, .inl (zN tb))), (n0, .inr (5, [.int (nI 0), .ref np, .ref na, .int (nI (p2 10)), .ref nc, .int (nI es.length), .ref nf, .ref nq, .ref no, .ref nx, .ref ny, .ref nl, .ref nh, .ref nb, .ref nw, .int (nI nv), .ref nt, .int (nI tl), .int av, .int wr, .long lf])), (np, .inl (ty.1, 10, .inl (zN p2))), (na, .inl (ty.2.2, 10, .inl (zB al))), (nc, .inl (ty.2.2, 16, .inl (zB cs))), (nf, .inl (ty.2.1, 2000, .inr (.inl fM))), (nq, .inl (ty.1, 2000, .inl qM)), (no, .inl (ty.1, 2000, .inl oM)), (nx, .inl (ty.1, 2000, .inl aM)), (ny, .inl (ty.1, 2000, .inl bM)), (nl, .inl (ty.1, 1024, .inl lM)), (nh, .inl (ty.1, 2000, .inl hM)), (nb, .inl (ty.1, 8, .inl gM)), (nw, .inl (ty.1, 400, .inl (zN pb))), (nt, .inl (ty.1, 300, .inl (zN tb))), (oa, .inl (ty.2.1, 1, .inr (.inl (vp_updL fo 0 (ivN (jj (xs (6 * j + 1)) (xs (6 * j + 2))) 16)))))]) [0, 1, 2, 3, 4, 5, 6, 7, 8, 9, 10, 11, 12, 13, 14, 15, 16, 31, 17, 18, 19, 20, 21, 22, 23, 24, 25, 26, 27, 28, 29, 30] rfl rfl rfl ?_
      refine g_lstore C dL_law_796 (by decide) (lv' := [(6, .long (ivN (jj (xs (6 * j + 1)) (xs (6 * j + 2))) 16)), (5, .int (nI 0)), (4, .int (nI (6 * j))), (0, .ref b), (1, .ref x0), (2, .ref n0), (3, .ref oa)]) rfl ?_
      refine g_aload_n C dL_law_798 5 rfl rfl ?_
      refine g_callPV C ⟨g_X0_ok, trivial⟩ (t_X6_thrown l D ty n0 np na nc nf nq no nx ny nl nh nb nw nt (nI 0) (nI (p2 10)) (nI nv) (nI tl) av wr lf (nI es.length)) rfl gL_law_X6_thrown 0 (by decide +kernel) rfl ⟨rfl, rfl⟩ ⟨Nat.le_of_ble_eq_true rfl, Nat.le_of_ble_eq_true rfl⟩ (rest := []) (q0 := 17) rfl rfl [17] rfl (Nat.le_of_ble_eq_true rfl) dL_law_799 ⟨by rw [hRc]; omega, by rw [hRs]; omega⟩ rfl (g_ki (fun r hr => ?_))
      subst hr
      refine g_iload C dL_law_802 1 rfl ?_
      refine g_icmp_eqN C dL_law_804 (tgt := 809) (by decide) (by omega) (by omega) (fun h804 => ?_) (fun h804 => ?_)
      · skip
        refine g_iload C dL_law_809 1 rfl ?_
        refine g_if_neN C dL_law_811 (tgt := 825) (by decide) (by omega) (fun h811 => ?_) (fun h811 => ?_)
        · skip
          exact absurd rfl h811
        · skip
          refine g_aload_n C dL_law_814 6 rfl rfl ?_
          refine g_iconst C dL_law_815 (v := (nI 0)) (by decide) ?_
          refine g_lald C (v := (ivN (jj (xs (6 * j + 1)) (xs (6 * j + 2))) 16)) 31 rfl (by omega) (by omega) (pk_uLs) dL_law_816 ?_
          refine g_lload C dL_law_817 0 rfl ?_
          refine g_lcmp C dL_law_819 ?_
          refine g_if_eq C dL_law_820 (tgt := 825) (by decide) (fun h820 => ?_) (fun h820 => ?_)
          · skip
            refine g_goto C dL_law_825 (tgt := 1907) (by decide) ?_
            refine g_lv [2, 3, 4, 5, 6] rfl ?_
            refine g_wid (k0 := (40 + 2 * (j + 1))) (n0 := (27000 + 2030 * (j + 1))) (by omega) (by omega) ?_
            exact ih1907 p2 al cs es st fF oF aF bF tF sF pF fM qM oM aM bM lM hM gM nv pb tl tb lf pl er (nI 0) av wr (vp_updL fo 0 (ivN (jj (xs (6 * j + 1)) (xs (6 * j + 2))) 16)) (by omega) hp hw ht hmo hI hnv htl hb
          · skip
            exact absurd (lg_eq rfl) h820
      · skip
        exact absurd rfl h804
    · skip
      have hib := ib16 (jj (xs (6 * j + 1)) (xs (6 * j + 2))) 65535
      omega
  · skip
    refine g_ws (ws' := [(x0, .inr (4, [.ref s0, .ref k0, .ref p0, .ref t0])), (s0, .inr (2, [.ref sp, .ref sa, .ref sc])), (sp, .inl (ty.1, 11, .inl (zN p2))), (sa, .inl (ty.2.2, 10, .inl (zB al))), (sc, .inl (ty.2.2, 16, .inl (zB cs))), (k0, .inr (1, [.int (nI es.length), .ref kf, .ref ko, .ref ka, .ref kb, .ref kt, .ref kl, .ref kp])), (kf, .inl (ty.2.1, 2000, .inr (.inl fF))), (ko, .inl (ty.1, 2000, .inl oF)), (ka, .inl (ty.1, 2000, .inl aF)), (kb, .inl (ty.1, 2000, .inl bF)), (kt, .inl (ty.1, 8, .inl tF)), (kl, .inl (ty.1, 4096, .inl sF)), (kp, .inl (ty.1, 13, .inl pF)), (p0, .inr (0, [.int (nI nv), .ref py])), (py, .inl (ty.1, 30, .inl (zN pb))), (t0, .inr (3, [.int (nI tl), .long lf, .ref tz, .int pl, .int er])), (tz, .inl (ty.1, 300, .inl (zN tb))), (n0, .inr (5, [.int th, .ref np, .ref na, .int (nI (p2 10)), .ref nc, .int (nI es.length), .ref nf, .ref nq, .ref no, .ref nx, .ref ny, .ref nl, .ref nh, .ref nb, .ref nw, .int (nI nv), .ref nt, .int (nI tl), .int av, .int wr, .long lf])), (np, .inl (ty.1, 10, .inl (zN p2))), (na, .inl (ty.2.2, 10, .inl (zB al))), (nc, .inl (ty.2.2, 16, .inl (zB cs))), (nf, .inl (ty.2.1, 2000, .inr (.inl fM))), (nq, .inl (ty.1, 2000, .inl qM)), (no, .inl (ty.1, 2000, .inl oM)), (nx, .inl (ty.1, 2000, .inl aM)), (ny, .inl (ty.1, 2000, .inl bM)), (nl, .inl (ty.1, 1024, .inl lM)), (nh, .inl (ty.1, 2000, .inl hM)), (nb, .inl (ty.1, 8, .inl gM)), (nw, .inl (ty.1, 400, .inl (zN pb))), (nt, .inl (ty.1, 300, .inl (zN tb))), (oa, .inl (ty.2.1, 1, .inr (.inl fo)))]) [30, 0, 1, 2, 3, 4, 5, 6, 7, 8, 9, 10, 11, 12, 13, 14, 15, 16, 17, 18, 19, 20, 21, 22, 23, 24, 25, 26, 27, 28, 29, 31] rfl rfl rfl ?_
    refine g_istore C dL_law_768 (by decide) (lv' := [(5, .int (nI 1)), (4, .int (nI (6 * j))), (0, .ref b), (1, .ref x0), (2, .ref n0), (3, .ref oa)]) rfl ?_
    refine g_aload_n C dL_law_770 4 rfl rfl ?_
    refine g_aload_n C dL_law_771 2 rfl rfl ?_
    refine g_iload C dL_law_772 1 rfl ?_
    refine g_iconst C dL_law_774 (v := (nI 1)) (by decide) ?_
    refine g_iadd C dL_law_775 (v := (nI (6 * j + 1))) (nI_add _ _) ?_
    refine g_sld C hsx hbl hbA hL (i := 6 * j + 1) (by omega) dL_law_776 ?_
    refine g_i2l C dL_law_777 (v := (Int32.toInt64 (xs (6 * j + 1)))) rfl ?_
    refine g_bipush C dL_law_778 (v := (nI 32)) (by decide) ?_
    refine g_lshl C dL_law_780 (v := (j_shl (Int32.toInt64 (xs (6 * j + 1))) (nI 32))) rfl ?_
    refine g_aload_n C dL_law_781 2 rfl rfl ?_
    refine g_iload C dL_law_782 1 rfl ?_
    refine g_iconst C dL_law_784 (v := (nI 2)) (by decide) ?_
    refine g_iadd C dL_law_785 (v := (nI (6 * j + 2))) (nI_add _ _) ?_
    refine g_sld C hsx hbl hbA hL (i := 6 * j + 2) (by omega) dL_law_786 ?_
    refine g_i2l C dL_law_787 (v := (Int32.toInt64 (xs (6 * j + 2)))) rfl ?_
    refine g_ldc2 C (v := (4294967295)) 7 rfl dL_law_788 ?_
    refine g_land C dL_law_791 (v := ((Int32.toInt64 (xs (6 * j + 2))) &&& (4294967295))) rfl ?_
    refine g_lor C dL_law_792 (v := (jj (xs (6 * j + 1)) (xs (6 * j + 2)))) rfl ?_
    refine g_callUV C ⟨g_X0_ok, trivial⟩ (t_X6_inverse l D ty n0 np na nc nf nq no nx ny nl nh nb nw nt th (nI (p2 10)) (nI nv) (nI tl) av wr lf (nI es.length) (jj (xs (6 * j + 1)) (xs (6 * j + 2)))) rfl gL_law_X6_inverse 1 (by decide +kernel) rfl ⟨rfl, rfl⟩ ⟨Nat.le_of_ble_eq_true rfl, Nat.le_of_ble_eq_true rfl⟩ (rest := []) (q0 := 17) rfl rfl hA [17] [0, 1, 2, 3, 4, 5, 6, 7, 8, 9, 10, 11, 12, 13, 14, 15, 16, 18, 19, 20, 21, 22, 23, 24, 25, 26, 27, 28, 29, 30, 31] rfl rfl rfl (wr := [(x0, .inr (4, [.ref s0, .ref k0, .ref p0, .ref t0])), (s0, .inr (2, [.ref sp, .ref sa, .ref sc])), (sp, .inl (ty.1, 11, .inl (zN p2))), (sa, .inl (ty.2.2, 10, .inl (zB al))), (sc, .inl (ty.2.2, 16, .inl (zB cs))), (k0, .inr (1, [.int (nI es.length), .ref kf, .ref ko, .ref ka, .ref kb, .ref kt, .ref kl, .ref kp])), (kf, .inl (ty.2.1, 2000, .inr (.inl fF))), (ko, .inl (ty.1, 2000, .inl oF)), (ka, .inl (ty.1, 2000, .inl aF)), (kb, .inl (ty.1, 2000, .inl bF)), (kt, .inl (ty.1, 8, .inl tF)), (kl, .inl (ty.1, 4096, .inl sF)), (kp, .inl (ty.1, 13, .inl pF)), (p0, .inr (0, [.int (nI nv), .ref py])), (py, .inl (ty.1, 30, .inl (zN pb))), (t0, .inr (3, [.int (nI tl), .long lf, .ref tz, .int pl, .int er])), (tz, .inl (ty.1, 300, .inl (zN tb))), (np, .inl (ty.1, 10, .inl (zN p2))), (na, .inl (ty.2.2, 10, .inl (zB al))), (nc, .inl (ty.2.2, 16, .inl (zB cs))), (nf, .inl (ty.2.1, 2000, .inr (.inl fM))), (nq, .inl (ty.1, 2000, .inl qM)), (no, .inl (ty.1, 2000, .inl oM)), (nx, .inl (ty.1, 2000, .inl aM)), (ny, .inl (ty.1, 2000, .inl bM)), (nl, .inl (ty.1, 1024, .inl lM)), (nh, .inl (ty.1, 2000, .inl hM)), (nb, .inl (ty.1, 8, .inl gM)), (nw, .inl (ty.1, 400, .inl (zN pb))), (nt, .inl (ty.1, 300, .inl (zN tb))), (oa, .inl (ty.2.1, 1, .inr (.inl fo)))]) rfl rfl rfl (Nat.le_of_ble_eq_true rfl) dL_law_793 ⟨by rw [hRc]; omega, by rw [hRs]; omega⟩ rfl (g_kul (fun r w hr => ?_))
    rcases hr with ⟨h162, rfl, rfl⟩ | ⟨hbad2, rfl, rfl⟩
    · skip
      omega
    · skip
      refine g_ws (ws' := [(x0, .inr (4, [.ref s0, .ref k0, .ref p0, .ref t0])), (s0, .inr (2, [.ref sp, .ref sa, .ref sc])), (sp, .inl (ty.1, 11, .inl (zN p2))), (sa, .inl (ty.2.2, 10, .inl (zB al))), (sc, .inl (ty.2.2, 16, .inl (zB cs))), (k0, .inr (1, [.int (nI es.length), .ref kf, .ref ko, .ref ka, .ref kb, .ref kt, .ref kl, .ref kp])), (kf, .inl (ty.2.1, 2000, .inr (.inl fF))), (ko, .inl (ty.1, 2000, .inl oF)), (ka, .inl (ty.1, 2000, .inl aF)), (kb, .inl (ty.1, 2000, .inl bF)), (kt, .inl (ty.1, 8, .inl tF)), (kl, .inl (ty.1, 4096, .inl sF)), (kp, .inl (ty.1, 13, .inl pF)), (p0, .inr (0, [.int (nI nv), .ref py])), (py, .inl (ty.1, 30, .inl (zN pb))), (t0, .inr (3, [.int (nI tl), .long lf, .ref tz, .int pl, .int er])), (tz, .inl (ty.1, 300, .inl (zN tb))), (n0, .inr (5, [.int (nI 1), .ref np, .ref na, .int (nI (p2 10)), .ref nc, .int (nI es.length), .ref nf, .ref nq, .ref no, .ref nx, .ref ny, .ref nl, .ref nh, .ref nb, .ref nw, .int (nI nv), .ref nt, .int (nI tl), .int av, .int wr, .long lf])), (np, .inl (ty.1, 10, .inl (zN p2))), (na, .inl (ty.2.2, 10, .inl (zB al))), (nc, .inl (ty.2.2, 16, .inl (zB cs))), (nf, .inl (ty.2.1, 2000, .inr (.inl fM))), (nq, .inl (ty.1, 2000, .inl qM)), (no, .inl (ty.1, 2000, .inl oM)), (nx, .inl (ty.1, 2000, .inl aM)), (ny, .inl (ty.1, 2000, .inl bM)), (nl, .inl (ty.1, 1024, .inl lM)), (nh, .inl (ty.1, 2000, .inl hM)), (nb, .inl (ty.1, 8, .inl gM)), (nw, .inl (ty.1, 400, .inl (zN pb))), (nt, .inl (ty.1, 300, .inl (zN tb))), (oa, .inl (ty.2.1, 1, .inr (.inl fo)))]) [0, 1, 2, 3, 4, 5, 6, 7, 8, 9, 10, 11, 12, 13, 14, 15, 16, 31, 17, 18, 19, 20, 21, 22, 23, 24, 25, 26, 27, 28, 29, 30] rfl rfl rfl ?_
      refine g_lstore C dL_law_796 (by decide) (lv' := [(6, .long 0), (5, .int (nI 1)), (4, .int (nI (6 * j))), (0, .ref b), (1, .ref x0), (2, .ref n0), (3, .ref oa)]) rfl ?_
      refine g_aload_n C dL_law_798 5 rfl rfl ?_
      refine g_callPV C ⟨g_X0_ok, trivial⟩ (t_X6_thrown l D ty n0 np na nc nf nq no nx ny nl nh nb nw nt (nI 1) (nI (p2 10)) (nI nv) (nI tl) av wr lf (nI es.length)) rfl gL_law_X6_thrown 0 (by decide +kernel) rfl ⟨rfl, rfl⟩ ⟨Nat.le_of_ble_eq_true rfl, Nat.le_of_ble_eq_true rfl⟩ (rest := []) (q0 := 17) rfl rfl [17] rfl (Nat.le_of_ble_eq_true rfl) dL_law_799 ⟨by rw [hRc]; omega, by rw [hRs]; omega⟩ rfl (g_ki (fun r hr => ?_))
      subst hr
      refine g_iload C dL_law_802 1 rfl ?_
      refine g_icmp_eqN C dL_law_804 (tgt := 809) (by decide) (by omega) (by omega) (fun h804 => ?_) (fun h804 => ?_)
      · skip
        refine g_iload C dL_law_809 1 rfl ?_
        refine g_if_neN C dL_law_811 (tgt := 825) (by decide) (by omega) (fun h811 => ?_) (fun h811 => ?_)
        · skip
          refine g_goto C dL_law_825 (tgt := 1907) (by decide) ?_
          refine g_lv [2, 3, 4, 5, 6] rfl ?_
          refine g_wid (k0 := (40 + 2 * (j + 1))) (n0 := (27000 + 2030 * (j + 1))) (by omega) (by omega) ?_
          exact ih1907 p2 al cs es st fF oF aF bF tF sF pF fM qM oM aM bM lM hM gM nv pb tl tb lf pl er (nI 1) av wr fo (by omega) hp hw ht hmo hI hnv htl hb
        · skip
          exact absurd h811 (by decide)
      · skip
        exact absurd rfl h804


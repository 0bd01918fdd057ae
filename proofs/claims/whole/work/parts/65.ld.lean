set_option maxHeartbeats 4000000 in
set_option maxRecDepth 100000 in
theorem lc_measure {p : Program} {e : Env} {s : State} {m : MethodId} {args : Array Value} {below : List Frame} {meth : Method} {c : Code} {Q : State → Prop} {A : Nat → Prop} (l : Launch) (hfl : l.stackTraces = false) (D : va_G) (ty : g_T3) (C : g_Cx (g_IU A D s) p s m args c code 9 A D ty RL wsL_law) (hA : ∀ q, s.heap.size ≤ q → A q) (hX : g_Xok g_XT ∧ g_XT A s) {b L : Nat} {xs : Nat → Int32} (hsx : va_X b L xs s s.heap) (hbl : b < s.heap.size) (hbA : ¬ A b) (hL : L ≤ 3072) (x0 s0 sp sa sc k0 kf ko ka kb kt kl kp p0 py t0 tz n0 np na nc nf nq no nx ny nl nh nb nw nt oa : Nat) (j : Nat) (hj : 6 * j + 6 ≤ L) (p2 : Nat → Nat) (al cs : Nat → Bool) (es : List Ent) (st : Nat → Nat) (fF : Nat → Int64) (oF aF bF tF sF pF : Nat → Int32) (fM : Nat → Int64) (qM oM aM bM lM hM gM : Nat → Int32) (nv : Nat) (pb : Nat → Nat) (tl : Nat) (tb : Nat → Nat) (lf : Int64) (pl er th av wr : Int32) (fo : Nat → Int64) (hp : (∀ k, k < 10 → 1 ≤ p2 k ∧ p2 k ≤ 5) ∧ p2 10 ≤ 5) (hw : rowOk es fF oF aF bF sF) (ht : ∀ j, j < 8 → tF j = nI (st j)) (hmo : modOk es fM qM oM aM bM lM hM) (hI : stI es st) (hnv : nv ≤ 30) (htl : tl ≤ 300) (hb : ∀ i, tb i < 256) (ih1907 : ∀ (p2 : Nat → Nat) (al cs : Nat → Bool) (es : List Ent) (st : Nat → Nat) (fF : Nat → Int64) (oF aF bF tF sF pF : Nat → Int32) (fM : Nat → Int64) (qM oM aM bM lM hM gM : Nat → Int32) (nv : Nat) (pb : Nat → Nat) (tl : Nat) (tb : Nat → Nat) (lf : Int64) (pl er th av wr : Int32) (fo : Nat → Int64) , 0 < 1 → ((∀ k, k < 10 → 1 ≤ p2 k ∧ p2 k ≤ 5) ∧ p2 10 ≤ 5) → (rowOk es fF oF aF bF sF) → (∀ j, j < 8 → tF j = nI (st j)) → (modOk es fM qM oM aM bM lM hM) → (stI es st) → (nv ≤ 30) → (tl ≤ 300) → (∀ i, tb i < 256) → gG (g_IU A D s) p l e room_1 s m args below meth c Q 9 (40 + 2 * (j + 1)) (27000 + 2030 * (j + 1)) 1907 [(4, .int (nI (6 * j))), (0, .ref b), (1, .ref x0), (2, .ref n0), (3, .ref oa)] [] [(x0, .inr (4, [.ref s0, .ref k0, .ref p0, .ref t0])), (s0, .inr (2, [.ref sp, .ref sa, .ref sc])), (sp, .inl (ty.1, 11, .inl (zN p2))), (sa, .inl (ty.2.2, 10, .inl (zB al))), (sc, .inl (ty.2.2, 16, .inl (zB cs))), (k0, .inr (1, [.int (nI es.length), .ref kf, .ref ko, .ref ka, .ref kb, .ref kt, .ref kl, .ref kp])), (kf, .inl (ty.2.1, 2000, .inr (.inl fF))), (ko, .inl (ty.1, 2000, .inl oF)), (ka, .inl (ty.1, 2000, .inl aF)), (kb, .inl (ty.1, 2000, .inl bF)), (kt, .inl (ty.1, 8, .inl tF)), (kl, .inl (ty.1, 4096, .inl sF)), (kp, .inl (ty.1, 13, .inl pF)), (p0, .inr (0, [.int (nI nv), .ref py])), (py, .inl (ty.1, 30, .inl (zN pb))), (t0, .inr (3, [.int (nI tl), .long lf, .ref tz, .int pl, .int er])), (tz, .inl (ty.1, 300, .inl (zN tb))), (n0, .inr (5, [.int th, .ref np, .ref na, .int (nI (p2 10)), .ref nc, .int (nI es.length), .ref nf, .ref nq, .ref no, .ref nx, .ref ny, .ref nl, .ref nh, .ref nb, .ref nw, .int (nI nv), .ref nt, .int (nI tl), .int av, .int wr, .long lf])), (np, .inl (ty.1, 10, .inl (zN p2))), (na, .inl (ty.2.2, 10, .inl (zB al))), (nc, .inl (ty.2.2, 16, .inl (zB cs))), (nf, .inl (ty.2.1, 2000, .inr (.inl fM))), (nq, .inl (ty.1, 2000, .inl qM)), (no, .inl (ty.1, 2000, .inl oM)), (nx, .inl (ty.1, 2000, .inl aM)), (ny, .inl (ty.1, 2000, .inl bM)), (nl, .inl (ty.1, 1024, .inl lM)), (nh, .inl (ty.1, 2000, .inl hM)), (nb, .inl (ty.1, 8, .inl gM)), (nw, .inl (ty.1, 400, .inl (zN pb))), (nt, .inl (ty.1, 300, .inl (zN tb))), (oa, .inl (ty.2.1, 1, .inr (.inl fo)))]) : gG (g_IU A D s) p l e room_1 s m args below meth c Q 9 (40 + 2 * j) (27000 + 2030 * j) 828 [(4, .int (nI (6 * j))), (0, .ref b), (1, .ref x0), (2, .ref n0), (3, .ref oa)] [] [(x0, .inr (4, [.ref s0, .ref k0, .ref p0, .ref t0])), (s0, .inr (2, [.ref sp, .ref sa, .ref sc])), (sp, .inl (ty.1, 11, .inl (zN p2))), (sa, .inl (ty.2.2, 10, .inl (zB al))), (sc, .inl (ty.2.2, 16, .inl (zB cs))), (k0, .inr (1, [.int (nI es.length), .ref kf, .ref ko, .ref ka, .ref kb, .ref kt, .ref kl, .ref kp])), (kf, .inl (ty.2.1, 2000, .inr (.inl fF))), (ko, .inl (ty.1, 2000, .inl oF)), (ka, .inl (ty.1, 2000, .inl aF)), (kb, .inl (ty.1, 2000, .inl bF)), (kt, .inl (ty.1, 8, .inl tF)), (kl, .inl (ty.1, 4096, .inl sF)), (kp, .inl (ty.1, 13, .inl pF)), (p0, .inr (0, [.int (nI nv), .ref py])), (py, .inl (ty.1, 30, .inl (zN pb))), (t0, .inr (3, [.int (nI tl), .long lf, .ref tz, .int pl, .int er])), (tz, .inl (ty.1, 300, .inl (zN tb))), (n0, .inr (5, [.int th, .ref np, .ref na, .int (nI (p2 10)), .ref nc, .int (nI es.length), .ref nf, .ref nq, .ref no, .ref nx, .ref ny, .ref nl, .ref nh, .ref nb, .ref nw, .int (nI nv), .ref nt, .int (nI tl), .int av, .int wr, .long lf])), (np, .inl (ty.1, 10, .inl (zN p2))), (na, .inl (ty.2.2, 10, .inl (zB al))), (nc, .inl (ty.2.2, 16, .inl (zB cs))), (nf, .inl (ty.2.1, 2000, .inr (.inl fM))), (nq, .inl (ty.1, 2000, .inl qM)), (no, .inl (ty.1, 2000, .inl oM)), (nx, .inl (ty.1, 2000, .inl aM)), (ny, .inl (ty.1, 2000, .inl bM)), (nl, .inl (ty.1, 1024, .inl lM)), (nh, .inl (ty.1, 2000, .inl hM)), (nb, .inl (ty.1, 8, .inl gM)), (nw, .inl (ty.1, 400, .inl (zN pb))), (nt, .inl (ty.1, 300, .inl (zN tb))), (oa, .inl (ty.2.1, 1, .inr (.inl fo)))] := by
  have hRc : room_1.cells = 601024 := rfl
  have hRs : room_1.slots = 7293034 := rfl
  have hlen : es.length ≤ 2000 := hI.2.2.2.2
  refine g_aload_n C dL_law_828 2 rfl rfl ?_
  refine g_aload_n C dL_law_829 1 rfl rfl ?_
  refine g_iload C dL_law_830 0 rfl ?_
  refine g_iconst C dL_law_832 (v := (nI 1)) (by decide) ?_
  refine g_iadd C dL_law_833 (v := (nI (6 * j + 1))) (nI_add _ _) ?_
  refine g_sld C hsx hbl hbA hL (i := 6 * j + 1) (by omega) dL_law_834 ?_
  refine g_i2l C dL_law_835 (v := (Int32.toInt64 (xs (6 * j + 1)))) rfl ?_
  refine g_bipush C dL_law_836 (v := (nI 32)) (by decide) ?_
  refine g_lshl C dL_law_838 (v := (j_shl (Int32.toInt64 (xs (6 * j + 1))) (nI 32))) rfl ?_
  refine g_aload_n C dL_law_839 1 rfl rfl ?_
  refine g_iload C dL_law_840 0 rfl ?_
  refine g_iconst C dL_law_842 (v := (nI 2)) (by decide) ?_
  refine g_iadd C dL_law_843 (v := (nI (6 * j + 2))) (nI_add _ _) ?_
  refine g_sld C hsx hbl hbA hL (i := 6 * j + 2) (by omega) dL_law_844 ?_
  refine g_i2l C dL_law_845 (v := (Int32.toInt64 (xs (6 * j + 2)))) rfl ?_
  refine g_ldc2 C (v := (4294967295)) 7 rfl dL_law_846 ?_
  refine g_land C dL_law_849 (v := ((Int32.toInt64 (xs (6 * j + 2))) &&& (4294967295))) rfl ?_
  refine g_lor C dL_law_850 (v := (jj (xs (6 * j + 1)) (xs (6 * j + 2)))) rfl ?_
  refine g_aload_n C dL_law_851 1 rfl rfl ?_
  refine g_iload C dL_law_852 0 rfl ?_
  refine g_iconst C dL_law_854 (v := (nI 3)) (by decide) ?_
  refine g_iadd C dL_law_855 (v := (nI (6 * j + 3))) (nI_add _ _) ?_
  refine g_sld C hsx hbl hbA hL (i := 6 * j + 3) (by omega) dL_law_856 ?_
  refine g_aload_n C dL_law_857 4 rfl rfl ?_
  refine g_callUW C hX (t_L_measure l hfl D ty s0 k0 p0 t0 x0 (jj (xs (6 * j + 1)) (xs (6 * j + 2))) (xs (6 * j + 3)) oa fo) rfl gL_law_L_measure 4 (by decide +kernel) rfl ⟨rfl, rfl⟩ ⟨Nat.le_of_ble_eq_true rfl, Nat.le_of_ble_eq_true rfl⟩ (rest := []) hA [0, 31] [1, 2, 3, 4, 5, 6, 7, 8, 9, 10, 11, 12, 13, 14, 15, 16, 17, 18, 19, 20, 21, 22, 23, 24, 25, 26, 27, 28, 29, 30] rfl rfl rfl (wr := [(s0, .inr (2, [.ref sp, .ref sa, .ref sc])), (sp, .inl (ty.1, 11, .inl (zN p2))), (sa, .inl (ty.2.2, 10, .inl (zB al))), (sc, .inl (ty.2.2, 16, .inl (zB cs))), (k0, .inr (1, [.int (nI es.length), .ref kf, .ref ko, .ref ka, .ref kb, .ref kt, .ref kl, .ref kp])), (kf, .inl (ty.2.1, 2000, .inr (.inl fF))), (ko, .inl (ty.1, 2000, .inl oF)), (ka, .inl (ty.1, 2000, .inl aF)), (kb, .inl (ty.1, 2000, .inl bF)), (kt, .inl (ty.1, 8, .inl tF)), (kl, .inl (ty.1, 4096, .inl sF)), (kp, .inl (ty.1, 13, .inl pF)), (p0, .inr (0, [.int (nI nv), .ref py])), (py, .inl (ty.1, 30, .inl (zN pb))), (t0, .inr (3, [.int (nI tl), .long lf, .ref tz, .int pl, .int er])), (tz, .inl (ty.1, 300, .inl (zN tb))), (n0, .inr (5, [.int th, .ref np, .ref na, .int (nI (p2 10)), .ref nc, .int (nI es.length), .ref nf, .ref nq, .ref no, .ref nx, .ref ny, .ref nl, .ref nh, .ref nb, .ref nw, .int (nI nv), .ref nt, .int (nI tl), .int av, .int wr, .long lf])), (np, .inl (ty.1, 10, .inl (zN p2))), (na, .inl (ty.2.2, 10, .inl (zB al))), (nc, .inl (ty.2.2, 16, .inl (zB cs))), (nf, .inl (ty.2.1, 2000, .inr (.inl fM))), (nq, .inl (ty.1, 2000, .inl qM)), (no, .inl (ty.1, 2000, .inl oM)), (nx, .inl (ty.1, 2000, .inl aM)), (ny, .inl (ty.1, 2000, .inl bM)), (nl, .inl (ty.1, 1024, .inl lM)), (nh, .inl (ty.1, 2000, .inl hM)), (nb, .inl (ty.1, 8, .inl gM)), (nw, .inl (ty.1, 400, .inl (zN pb))), (nt, .inl (ty.1, 300, .inl (zN tb)))]) rfl rfl rfl (Nat.le_of_ble_eq_true rfl) dL_law_858 ⟨by rw [hRc]; omega, by rw [hRs]; omega⟩ rfl (g_kui (fun r w hr => ?_))
  rcases hr with ⟨k, rv, hk, hok, hmv, rfl, rfl⟩ | ⟨hbad, rfl, rfl⟩
  · skip
    refine g_ws (ws' := [(x0, .inr (4, [.ref s0, .ref k0, .ref p0, .ref t0])), (s0, .inr (2, [.ref sp, .ref sa, .ref sc])), (sp, .inl (ty.1, 11, .inl (zN p2))), (sa, .inl (ty.2.2, 10, .inl (zB al))), (sc, .inl (ty.2.2, 16, .inl (zB cs))), (k0, .inr (1, [.int (nI es.length), .ref kf, .ref ko, .ref ka, .ref kb, .ref kt, .ref kl, .ref kp])), (kf, .inl (ty.2.1, 2000, .inr (.inl fF))), (ko, .inl (ty.1, 2000, .inl oF)), (ka, .inl (ty.1, 2000, .inl aF)), (kb, .inl (ty.1, 2000, .inl bF)), (kt, .inl (ty.1, 8, .inl tF)), (kl, .inl (ty.1, 4096, .inl sF)), (kp, .inl (ty.1, 13, .inl pF)), (p0, .inr (0, [.int (nI nv), .ref py])), (py, .inl (ty.1, 30, .inl (zN pb))), (t0, .inr (3, [.int (nI tl), .long lf, .ref tz, .int pl, .int er])), (tz, .inl (ty.1, 300, .inl (zN tb))), (n0, .inr (5, [.int th, .ref np, .ref na, .int (nI (p2 10)), .ref nc, .int (nI es.length), .ref nf, .ref nq, .ref no, .ref nx, .ref ny, .ref nl, .ref nh, .ref nb, .ref nw, .int (nI nv), .ref nt, .int (nI tl), .int av, .int wr, .long lf])), (np, .inl (ty.1, 10, .inl (zN p2))), (na, .inl (ty.2.2, 10, .inl (zB al))), (nc, .inl (ty.2.2, 16, .inl (zB cs))), (nf, .inl (ty.2.1, 2000, .inr (.inl fM))), (nq, .inl (ty.1, 2000, .inl qM)), (no, .inl (ty.1, 2000, .inl oM)), (nx, .inl (ty.1, 2000, .inl aM)), (ny, .inl (ty.1, 2000, .inl bM)), (nl, .inl (ty.1, 1024, .inl lM)), (nh, .inl (ty.1, 2000, .inl hM)), (nb, .inl (ty.1, 8, .inl gM)), (nw, .inl (ty.1, 400, .inl (zN pb))), (nt, .inl (ty.1, 300, .inl (zN tb))), (oa, .inl (ty.2.1, 1, .inr (.inl (vp_updL fo 0 (Int32.toInt64 (rv))))))]) [30, 0, 1, 2, 3, 4, 5, 6, 7, 8, 9, 10, 11, 12, 13, 14, 15, 16, 17, 18, 19, 20, 21, 22, 23, 24, 25, 26, 27, 28, 29, 31] rfl rfl rfl ?_
    refine g_istore C dL_law_861 (by decide) (lv' := [(5, .int (nI 0)), (4, .int (nI (6 * j))), (0, .ref b), (1, .ref x0), (2, .ref n0), (3, .ref oa)]) rfl ?_
    refine g_aload_n C dL_law_863 4 rfl rfl ?_
    refine g_aload_n C dL_law_864 2 rfl rfl ?_
    refine g_iload C dL_law_865 1 rfl ?_
    refine g_iconst C dL_law_867 (v := (nI 1)) (by decide) ?_
    refine g_iadd C dL_law_868 (v := (nI (6 * j + 1))) (nI_add _ _) ?_
    refine g_sld C hsx hbl hbA hL (i := 6 * j + 1) (by omega) dL_law_869 ?_
    refine g_i2l C dL_law_870 (v := (Int32.toInt64 (xs (6 * j + 1)))) rfl ?_
    refine g_bipush C dL_law_871 (v := (nI 32)) (by decide) ?_
    refine g_lshl C dL_law_873 (v := (j_shl (Int32.toInt64 (xs (6 * j + 1))) (nI 32))) rfl ?_
    refine g_aload_n C dL_law_874 2 rfl rfl ?_
    refine g_iload C dL_law_875 1 rfl ?_
    refine g_iconst C dL_law_877 (v := (nI 2)) (by decide) ?_
    refine g_iadd C dL_law_878 (v := (nI (6 * j + 2))) (nI_add _ _) ?_
    refine g_sld C hsx hbl hbA hL (i := 6 * j + 2) (by omega) dL_law_879 ?_
    refine g_i2l C dL_law_880 (v := (Int32.toInt64 (xs (6 * j + 2)))) rfl ?_
    refine g_ldc2 C (v := (4294967295)) 7 rfl dL_law_881 ?_
    refine g_land C dL_law_884 (v := ((Int32.toInt64 (xs (6 * j + 2))) &&& (4294967295))) rfl ?_
    refine g_lor C dL_law_885 (v := (jj (xs (6 * j + 1)) (xs (6 * j + 2)))) rfl ?_
    refine g_aload_n C dL_law_886 2 rfl rfl ?_
    refine g_iload C dL_law_887 1 rfl ?_
    refine g_iconst C dL_law_889 (v := (nI 3)) (by decide) ?_
    refine g_iadd C dL_law_890 (v := (nI (6 * j + 3))) (nI_add _ _) ?_
    refine g_sld C hsx hbl hbA hL (i := 6 * j + 3) (by omega) dL_law_891 ?_
    refine g_callUV C ⟨g_X0_ok, trivial⟩ (t_X6_measure l D ty n0 np na nc nf nq no nx ny nl nh nb nw nt th (nI (p2 10)) (nI nv) (nI tl) av wr lf (nI es.length) (jj (xs (6 * j + 1)) (xs (6 * j + 2))) (xs (6 * j + 3))) rfl gL_law_X6_measure 2 (by decide +kernel) rfl ⟨rfl, rfl⟩ ⟨Nat.le_of_ble_eq_true rfl, Nat.le_of_ble_eq_true rfl⟩ (rest := []) (q0 := 17) rfl rfl hA [17] [0, 1, 2, 3, 4, 5, 6, 7, 8, 9, 10, 11, 12, 13, 14, 15, 16, 18, 19, 20, 21, 22, 23, 24, 25, 26, 27, 28, 29, 30, 31] rfl rfl rfl (wr := [(x0, .inr (4, [.ref s0, .ref k0, .ref p0, .ref t0])), (s0, .inr (2, [.ref sp, .ref sa, .ref sc])), (sp, .inl (ty.1, 11, .inl (zN p2))), (sa, .inl (ty.2.2, 10, .inl (zB al))), (sc, .inl (ty.2.2, 16, .inl (zB cs))), (k0, .inr (1, [.int (nI es.length), .ref kf, .ref ko, .ref ka, .ref kb, .ref kt, .ref kl, .ref kp])), (kf, .inl (ty.2.1, 2000, .inr (.inl fF))), (ko, .inl (ty.1, 2000, .inl oF)), (ka, .inl (ty.1, 2000, .inl aF)), (kb, .inl (ty.1, 2000, .inl bF)), (kt, .inl (ty.1, 8, .inl tF)), (kl, .inl (ty.1, 4096, .inl sF)), (kp, .inl (ty.1, 13, .inl pF)), (p0, .inr (0, [.int (nI nv), .ref py])), (py, .inl (ty.1, 30, .inl (zN pb))), (t0, .inr (3, [.int (nI tl), .long lf, .ref tz, .int pl, .int er])), (tz, .inl (ty.1, 300, .inl (zN tb))), (np, .inl (ty.1, 10, .inl (zN p2))), (na, .inl (ty.2.2, 10, .inl (zB al))), (nc, .inl (ty.2.2, 16, .inl (zB cs))), (nf, .inl (ty.2.1, 2000, .inr (.inl fM))), (nq, .inl (ty.1, 2000, .inl qM)), (no, .inl (ty.1, 2000, .inl oM)), (nx, .inl (ty.1, 2000, .inl aM)), (ny, .inl (ty.1, 2000, .inl bM)), (nl, .inl (ty.1, 1024, .inl lM)), (nh, .inl (ty.1, 2000, .inl hM)), (nb, .inl (ty.1, 8, .inl gM)), (nw, .inl (ty.1, 400, .inl (zN pb))), (nt, .inl (ty.1, 300, .inl (zN tb))), (oa, .inl (ty.2.1, 1, .inr (.inl (vp_updL fo 0 (Int32.toInt64 (rv))))))]) rfl rfl rfl (Nat.le_of_ble_eq_true rfl) dL_law_892 ⟨by rw [hRc]; omega, by rw [hRs]; omega⟩ rfl (g_kui (fun r w hr => ?_))
    rcases hr with ⟨k2, hk2, hok2, hmv2, rfl⟩ | ⟨hbad2, rfl, rfl⟩
    · skip
      obtain rfl := nI_ij (by omega) (by omega) (hok.symm.trans hok2)
      obtain rfl := ms_eq hk hmv hmv2
      refine g_ws (ws' := [(x0, .inr (4, [.ref s0, .ref k0, .ref p0, .ref t0])), (s0, .inr (2, [.ref sp, .ref sa, .ref sc])), (sp, .inl (ty.1, 11, .inl (zN p2))), (sa, .inl (ty.2.2, 10, .inl (zB al))), (sc, .inl (ty.2.2, 16, .inl (zB cs))), (k0, .inr (1, [.int (nI es.length), .ref kf, .ref ko, .ref ka, .ref kb, .ref kt, .ref kl, .ref kp])), (kf, .inl (ty.2.1, 2000, .inr (.inl fF))), (ko, .inl (ty.1, 2000, .inl oF)), (ka, .inl (ty.1, 2000, .inl aF)), (kb, .inl (ty.1, 2000, .inl bF)), (kt, .inl (ty.1, 8, .inl tF)), (kl, .inl (ty.1, 4096, .inl sF)), (kp, .inl (ty.1, 13, .inl pF)), (p0, .inr (0, [.int (nI nv), .ref py])), (py, .inl (ty.1, 30, .inl (zN pb))), (t0, .inr (3, [.int (nI tl), .long lf, .ref tz, .int pl, .int er])), (tz, .inl (ty.1, 300, .inl (zN tb))), (n0, .inr (5, [.int (nI 0), .ref np, .ref na, .int (nI (p2 10)), .ref nc, .int (nI es.length), .ref nf, .ref nq, .ref no, .ref nx, .ref ny, .ref nl, .ref nh, .ref nb, .ref nw, .int (nI nv), .ref nt, .int (nI tl), .int av, .int wr, .long lf])), (np, .inl (ty.1, 10, .inl (zN p2))), (na, .inl (ty.2.2, 10, .inl (zB al))), (nc, .inl (ty.2.2, 16, .inl (zB cs))), (nf, .inl (ty.2.1, 2000, .inr (.inl fM))), (nq, .inl (ty.1, 2000, .inl qM)), (no, .inl (ty.1, 2000, .inl oM)), (nx, .inl (ty.1, 2000, .inl aM)), (ny, .inl (ty.1, 2000, .inl bM)), (nl, .inl (ty.1, 1024, .inl lM)), (nh, .inl (ty.1, 2000, .inl hM)), (nb, .inl (ty.1, 8, .inl gM)), (nw, .inl (ty.1, 400, .inl (zN pb))), (nt, .inl (ty.1, 300, .inl (zN tb))), (oa, .inl (ty.2.1, 1, .inr (.inl (vp_updL fo 0 (Int32.toInt64 (rv))))))]) [0, 1, 2, 3, 4, 5, 6, 7, 8, 9, 10, 11, 12, 13, 14, 15, 16, 31, 17, 18, 19, 20, 21, 22, 23, 24, 25, 26, 27, 28, 29, 30] rfl rfl rfl ?_
      refine g_istore C dL_law_895 (by decide) (lv' := [(6, .int rv), (5, .int (nI 0)), (4, .int (nI (6 * j))), (0, .ref b), (1, .ref x0), (2, .ref n0), (3, .ref oa)]) rfl ?_
      refine g_aload_n C dL_law_897 5 rfl rfl ?_
      refine g_callPV C ⟨g_X0_ok, trivial⟩ (t_X6_thrown l D ty n0 np na nc nf nq no nx ny nl nh nb nw nt (nI 0) (nI (p2 10)) (nI nv) (nI tl) av wr lf (nI es.length)) rfl gL_law_X6_thrown 0 (by decide +kernel) rfl ⟨rfl, rfl⟩ ⟨Nat.le_of_ble_eq_true rfl, Nat.le_of_ble_eq_true rfl⟩ (rest := []) (q0 := 17) rfl rfl [17] rfl (Nat.le_of_ble_eq_true rfl) dL_law_898 ⟨by rw [hRc]; omega, by rw [hRs]; omega⟩ rfl (g_ki (fun r hr => ?_))
      subst hr
      refine g_iload C dL_law_901 1 rfl ?_
      refine g_icmp_eqN C dL_law_903 (tgt := 908) (by decide) (by omega) (by omega) (fun h903 => ?_) (fun h903 => ?_)
      · skip
        refine g_iload C dL_law_908 1 rfl ?_
        refine g_if_neN C dL_law_910 (tgt := 925) (by decide) (by omega) (fun h910 => ?_) (fun h910 => ?_)
        · skip
          exact absurd rfl h910
        · skip
          refine g_aload_n C dL_law_913 6 rfl rfl ?_
          refine g_iconst C dL_law_914 (v := (nI 0)) (by decide) ?_
          refine g_lald C (v := (Int32.toInt64 (rv))) 31 rfl (by omega) (by omega) (pk_uLs) dL_law_915 ?_
          refine g_iload C dL_law_916 0 rfl ?_
          refine g_i2l C dL_law_918 (v := (Int32.toInt64 rv)) rfl ?_
          refine g_lcmp C dL_law_919 ?_
          refine g_if_eq C dL_law_920 (tgt := 925) (by decide) (fun h920 => ?_) (fun h920 => ?_)
          · skip
            refine g_goto C dL_law_925 (tgt := 1907) (by decide) ?_
            refine g_lv [2, 3, 4, 5, 6] rfl ?_
            refine g_wid (k0 := (40 + 2 * (j + 1))) (n0 := (27000 + 2030 * (j + 1))) (by omega) (by omega) ?_
            exact ih1907 p2 al cs es st fF oF aF bF tF sF pF fM qM oM aM bM lM hM gM nv pb tl tb lf pl er (nI 0) av wr (vp_updL fo 0 (Int32.toInt64 (rv))) (by omega) hp hw ht hmo hI hnv htl hb
          · skip
            exact absurd (lg_eq rfl) h920
      · skip
        exact absurd rfl h903
    · skip
      rw [hok, nI_toInt (by omega)] at hbad2
      omega
  · skip
    refine g_ws (ws' := [(x0, .inr (4, [.ref s0, .ref k0, .ref p0, .ref t0])), (s0, .inr (2, [.ref sp, .ref sa, .ref sc])), (sp, .inl (ty.1, 11, .inl (zN p2))), (sa, .inl (ty.2.2, 10, .inl (zB al))), (sc, .inl (ty.2.2, 16, .inl (zB cs))), (k0, .inr (1, [.int (nI es.length), .ref kf, .ref ko, .ref ka, .ref kb, .ref kt, .ref kl, .ref kp])), (kf, .inl (ty.2.1, 2000, .inr (.inl fF))), (ko, .inl (ty.1, 2000, .inl oF)), (ka, .inl (ty.1, 2000, .inl aF)), (kb, .inl (ty.1, 2000, .inl bF)), (kt, .inl (ty.1, 8, .inl tF)), (kl, .inl (ty.1, 4096, .inl sF)), (kp, .inl (ty.1, 13, .inl pF)), (p0, .inr (0, [.int (nI nv), .ref py])), (py, .inl (ty.1, 30, .inl (zN pb))), (t0, .inr (3, [.int (nI tl), .long lf, .ref tz, .int pl, .int er])), (tz, .inl (ty.1, 300, .inl (zN tb))), (n0, .inr (5, [.int th, .ref np, .ref na, .int (nI (p2 10)), .ref nc, .int (nI es.length), .ref nf, .ref nq, .ref no, .ref nx, .ref ny, .ref nl, .ref nh, .ref nb, .ref nw, .int (nI nv), .ref nt, .int (nI tl), .int av, .int wr, .long lf])), (np, .inl (ty.1, 10, .inl (zN p2))), (na, .inl (ty.2.2, 10, .inl (zB al))), (nc, .inl (ty.2.2, 16, .inl (zB cs))), (nf, .inl (ty.2.1, 2000, .inr (.inl fM))), (nq, .inl (ty.1, 2000, .inl qM)), (no, .inl (ty.1, 2000, .inl oM)), (nx, .inl (ty.1, 2000, .inl aM)), (ny, .inl (ty.1, 2000, .inl bM)), (nl, .inl (ty.1, 1024, .inl lM)), (nh, .inl (ty.1, 2000, .inl hM)), (nb, .inl (ty.1, 8, .inl gM)), (nw, .inl (ty.1, 400, .inl (zN pb))), (nt, .inl (ty.1, 300, .inl (zN tb))), (oa, .inl (ty.2.1, 1, .inr (.inl fo)))]) [30, 0, 1, 2, 3, 4, 5, 6, 7, 8, 9, 10, 11, 12, 13, 14, 15, 16, 17, 18, 19, 20, 21, 22, 23, 24, 25, 26, 27, 28, 29, 31] rfl rfl rfl ?_
    refine g_istore C dL_law_861 (by decide) (lv' := [(5, .int (nI 1)), (4, .int (nI (6 * j))), (0, .ref b), (1, .ref x0), (2, .ref n0), (3, .ref oa)]) rfl ?_
    refine g_aload_n C dL_law_863 4 rfl rfl ?_
    refine g_aload_n C dL_law_864 2 rfl rfl ?_
    refine g_iload C dL_law_865 1 rfl ?_
    refine g_iconst C dL_law_867 (v := (nI 1)) (by decide) ?_
    refine g_iadd C dL_law_868 (v := (nI (6 * j + 1))) (nI_add _ _) ?_
    refine g_sld C hsx hbl hbA hL (i := 6 * j + 1) (by omega) dL_law_869 ?_
    refine g_i2l C dL_law_870 (v := (Int32.toInt64 (xs (6 * j + 1)))) rfl ?_
    refine g_bipush C dL_law_871 (v := (nI 32)) (by decide) ?_
    refine g_lshl C dL_law_873 (v := (j_shl (Int32.toInt64 (xs (6 * j + 1))) (nI 32))) rfl ?_
    refine g_aload_n C dL_law_874 2 rfl rfl ?_
    refine g_iload C dL_law_875 1 rfl ?_
    refine g_iconst C dL_law_877 (v := (nI 2)) (by decide) ?_
    refine g_iadd C dL_law_878 (v := (nI (6 * j + 2))) (nI_add _ _) ?_
    refine g_sld C hsx hbl hbA hL (i := 6 * j + 2) (by omega) dL_law_879 ?_
    refine g_i2l C dL_law_880 (v := (Int32.toInt64 (xs (6 * j + 2)))) rfl ?_
    refine g_ldc2 C (v := (4294967295)) 7 rfl dL_law_881 ?_
    refine g_land C dL_law_884 (v := ((Int32.toInt64 (xs (6 * j + 2))) &&& (4294967295))) rfl ?_
    refine g_lor C dL_law_885 (v := (jj (xs (6 * j + 1)) (xs (6 * j + 2)))) rfl ?_
    refine g_aload_n C dL_law_886 2 rfl rfl ?_
    refine g_iload C dL_law_887 1 rfl ?_
    refine g_iconst C dL_law_889 (v := (nI 3)) (by decide) ?_
    refine g_iadd C dL_law_890 (v := (nI (6 * j + 3))) (nI_add _ _) ?_
    refine g_sld C hsx hbl hbA hL (i := 6 * j + 3) (by omega) dL_law_891 ?_
    refine g_callUV C ⟨g_X0_ok, trivial⟩ (t_X6_measure l D ty n0 np na nc nf nq no nx ny nl nh nb nw nt th (nI (p2 10)) (nI nv) (nI tl) av wr lf (nI es.length) (jj (xs (6 * j + 1)) (xs (6 * j + 2))) (xs (6 * j + 3))) rfl gL_law_X6_measure 2 (by decide +kernel) rfl ⟨rfl, rfl⟩ ⟨Nat.le_of_ble_eq_true rfl, Nat.le_of_ble_eq_true rfl⟩ (rest := []) (q0 := 17) rfl rfl hA [17] [0, 1, 2, 3, 4, 5, 6, 7, 8, 9, 10, 11, 12, 13, 14, 15, 16, 18, 19, 20, 21, 22, 23, 24, 25, 26, 27, 28, 29, 30, 31] rfl rfl rfl (wr := [(x0, .inr (4, [.ref s0, .ref k0, .ref p0, .ref t0])), (s0, .inr (2, [.ref sp, .ref sa, .ref sc])), (sp, .inl (ty.1, 11, .inl (zN p2))), (sa, .inl (ty.2.2, 10, .inl (zB al))), (sc, .inl (ty.2.2, 16, .inl (zB cs))), (k0, .inr (1, [.int (nI es.length), .ref kf, .ref ko, .ref ka, .ref kb, .ref kt, .ref kl, .ref kp])), (kf, .inl (ty.2.1, 2000, .inr (.inl fF))), (ko, .inl (ty.1, 2000, .inl oF)), (ka, .inl (ty.1, 2000, .inl aF)), (kb, .inl (ty.1, 2000, .inl bF)), (kt, .inl (ty.1, 8, .inl tF)), (kl, .inl (ty.1, 4096, .inl sF)), (kp, .inl (ty.1, 13, .inl pF)), (p0, .inr (0, [.int (nI nv), .ref py])), (py, .inl (ty.1, 30, .inl (zN pb))), (t0, .inr (3, [.int (nI tl), .long lf, .ref tz, .int pl, .int er])), (tz, .inl (ty.1, 300, .inl (zN tb))), (np, .inl (ty.1, 10, .inl (zN p2))), (na, .inl (ty.2.2, 10, .inl (zB al))), (nc, .inl (ty.2.2, 16, .inl (zB cs))), (nf, .inl (ty.2.1, 2000, .inr (.inl fM))), (nq, .inl (ty.1, 2000, .inl qM)), (no, .inl (ty.1, 2000, .inl oM)), (nx, .inl (ty.1, 2000, .inl aM)), (ny, .inl (ty.1, 2000, .inl bM)), (nl, .inl (ty.1, 1024, .inl lM)), (nh, .inl (ty.1, 2000, .inl hM)), (nb, .inl (ty.1, 8, .inl gM)), (nw, .inl (ty.1, 400, .inl (zN pb))), (nt, .inl (ty.1, 300, .inl (zN tb))), (oa, .inl (ty.2.1, 1, .inr (.inl fo)))]) rfl rfl rfl (Nat.le_of_ble_eq_true rfl) dL_law_892 ⟨by rw [hRc]; omega, by rw [hRs]; omega⟩ rfl (g_kui (fun r w hr => ?_))
    rcases hr with ⟨k2, hk2, hok2, hmv2, rfl⟩ | ⟨hbad2, rfl, rfl⟩
    · skip
      rw [hok2, nI_toInt (by omega)] at hbad
      omega
    · skip
      refine g_ws (ws' := [(x0, .inr (4, [.ref s0, .ref k0, .ref p0, .ref t0])), (s0, .inr (2, [.ref sp, .ref sa, .ref sc])), (sp, .inl (ty.1, 11, .inl (zN p2))), (sa, .inl (ty.2.2, 10, .inl (zB al))), (sc, .inl (ty.2.2, 16, .inl (zB cs))), (k0, .inr (1, [.int (nI es.length), .ref kf, .ref ko, .ref ka, .ref kb, .ref kt, .ref kl, .ref kp])), (kf, .inl (ty.2.1, 2000, .inr (.inl fF))), (ko, .inl (ty.1, 2000, .inl oF)), (ka, .inl (ty.1, 2000, .inl aF)), (kb, .inl (ty.1, 2000, .inl bF)), (kt, .inl (ty.1, 8, .inl tF)), (kl, .inl (ty.1, 4096, .inl sF)), (kp, .inl (ty.1, 13, .inl pF)), (p0, .inr (0, [.int (nI nv), .ref py])), (py, .inl (ty.1, 30, .inl (zN pb))), (t0, .inr (3, [.int (nI tl), .long lf, .ref tz, .int pl, .int er])), (tz, .inl (ty.1, 300, .inl (zN tb))), (n0, .inr (5, [.int (nI 1), .ref np, .ref na, .int (nI (p2 10)), .ref nc, .int (nI es.length), .ref nf, .ref nq, .ref no, .ref nx, .ref ny, .ref nl, .ref nh, .ref nb, .ref nw, .int (nI nv), .ref nt, .int (nI tl), .int av, .int wr, .long lf])), (np, .inl (ty.1, 10, .inl (zN p2))), (na, .inl (ty.2.2, 10, .inl (zB al))), (nc, .inl (ty.2.2, 16, .inl (zB cs))), (nf, .inl (ty.2.1, 2000, .inr (.inl fM))), (nq, .inl (ty.1, 2000, .inl qM)), (no, .inl (ty.1, 2000, .inl oM)), (nx, .inl (ty.1, 2000, .inl aM)), (ny, .inl (ty.1, 2000, .inl bM)), (nl, .inl (ty.1, 1024, .inl lM)), (nh, .inl (ty.1, 2000, .inl hM)), (nb, .inl (ty.1, 8, .inl gM)), (nw, .inl (ty.1, 400, .inl (zN pb))), (nt, .inl (ty.1, 300, .inl (zN tb))), (oa, .inl (ty.2.1, 1, .inr (.inl fo)))]) [0, 1, 2, 3, 4, 5, 6, 7, 8, 9, 10, 11, 12, 13, 14, 15, 16, 31, 17, 18, 19, 20, 21, 22, 23, 24, 25, 26, 27, 28, 29, 30] rfl rfl rfl ?_
      refine g_istore C dL_law_895 (by decide) (lv' := [(6, .int (nI 0)), (5, .int (nI 1)), (4, .int (nI (6 * j))), (0, .ref b), (1, .ref x0), (2, .ref n0), (3, .ref oa)]) rfl ?_
      refine g_aload_n C dL_law_897 5 rfl rfl ?_
      refine g_callPV C ⟨g_X0_ok, trivial⟩ (t_X6_thrown l D ty n0 np na nc nf nq no nx ny nl nh nb nw nt (nI 1) (nI (p2 10)) (nI nv) (nI tl) av wr lf (nI es.length)) rfl gL_law_X6_thrown 0 (by decide +kernel) rfl ⟨rfl, rfl⟩ ⟨Nat.le_of_ble_eq_true rfl, Nat.le_of_ble_eq_true rfl⟩ (rest := []) (q0 := 17) rfl rfl [17] rfl (Nat.le_of_ble_eq_true rfl) dL_law_898 ⟨by rw [hRc]; omega, by rw [hRs]; omega⟩ rfl (g_ki (fun r hr => ?_))
      subst hr
      refine g_iload C dL_law_901 1 rfl ?_
      refine g_icmp_eqN C dL_law_903 (tgt := 908) (by decide) (by omega) (by omega) (fun h903 => ?_) (fun h903 => ?_)
      · skip
        refine g_iload C dL_law_908 1 rfl ?_
        refine g_if_neN C dL_law_910 (tgt := 925) (by decide) (by omega) (fun h910 => ?_) (fun h910 => ?_)
        · skip
          refine g_goto C dL_law_925 (tgt := 1907) (by decide) ?_
          refine g_lv [2, 3, 4, 5, 6] rfl ?_
          refine g_wid (k0 := (40 + 2 * (j + 1))) (n0 := (27000 + 2030 * (j + 1))) (by omega) (by omega) ?_
          exact ih1907 p2 al cs es st fF oF aF bF tF sF pF fM qM oM aM bM lM hM gM nv pb tl tb lf pl er (nI 1) av wr fo (by omega) hp hw ht hmo hI hnv htl hb
        · skip
          exact absurd h910 (by decide)
      · skip
        exact absurd rfl h903

set_option maxHeartbeats 4000000 in
set_option maxRecDepth 100000 in
theorem lc_is {p : Program} {e : Env} {s : State} {m : MethodId} {args : Array Value} {below : List Frame} {meth : Method} {c : Code} {Q : State → Prop} {A : Nat → Prop} (l : Launch) (hfl : l.stackTraces = false) (D : va_G) (ty : g_T3) (C : g_Cx (g_IU A D s) p s m args c code 9 A D ty RL wsL_law) (hA : ∀ q, s.heap.size ≤ q → A q) (hX : g_Xok g_XT ∧ g_XT A s) {b L : Nat} {xs : Nat → Int32} (hsx : va_X b L xs s s.heap) (hbl : b < s.heap.size) (hbA : ¬ A b) (hL : L ≤ 3072) (x0 s0 sp sa sc k0 kf ko ka kb kt kl kp p0 py t0 tz n0 np na nc nf nq no nx ny nl nh nb nw nt oa : Nat) (j : Nat) (hj : 6 * j + 6 ≤ L) (p2 : Nat → Nat) (al cs : Nat → Bool) (es : List Ent) (st : Nat → Nat) (fF : Nat → Int64) (oF aF bF tF sF pF : Nat → Int32) (fM : Nat → Int64) (qM oM aM bM lM hM gM : Nat → Int32) (nv : Nat) (pb : Nat → Nat) (tl : Nat) (tb : Nat → Nat) (lf : Int64) (pl er th av wr : Int32) (fo : Nat → Int64) (hp : (∀ k, k < 10 → 1 ≤ p2 k ∧ p2 k ≤ 5) ∧ p2 10 ≤ 5) (hw : rowOk es fF oF aF bF sF) (ht : ∀ j, j < 8 → tF j = nI (st j)) (hmo : modOk es fM qM oM aM bM lM hM) (hI : stI es st) (hnv : nv ≤ 30) (htl : tl ≤ 300) (hb : ∀ i, tb i < 256) (ih1907 : ∀ (p2 : Nat → Nat) (al cs : Nat → Bool) (es : List Ent) (st : Nat → Nat) (fF : Nat → Int64) (oF aF bF tF sF pF : Nat → Int32) (fM : Nat → Int64) (qM oM aM bM lM hM gM : Nat → Int32) (nv : Nat) (pb : Nat → Nat) (tl : Nat) (tb : Nat → Nat) (lf : Int64) (pl er th av wr : Int32) (fo : Nat → Int64) , 0 < 1 → ((∀ k, k < 10 → 1 ≤ p2 k ∧ p2 k ≤ 5) ∧ p2 10 ≤ 5) → (rowOk es fF oF aF bF sF) → (∀ j, j < 8 → tF j = nI (st j)) → (modOk es fM qM oM aM bM lM hM) → (stI es st) → (nv ≤ 30) → (tl ≤ 300) → (∀ i, tb i < 256) → gG (g_IU A D s) p l e room_1 s m args below meth c Q 9 (40 + 2 * (j + 1)) (27000 + 2030 * (j + 1)) 1907 [(4, .int (nI (6 * j))), (0, .ref b), (1, .ref x0), (2, .ref n0), (3, .ref oa)] [] [(x0, .inr (4, [.ref s0, .ref k0, .ref p0, .ref t0])), (s0, .inr (2, [.ref sp, .ref sa, .ref sc])), (sp, .inl (ty.1, 11, .inl (zN p2))), (sa, .inl (ty.2.2, 10, .inl (zB al))), (sc, .inl (ty.2.2, 16, .inl (zB cs))), (k0, .inr (1, [.int (nI es.length), .ref kf, .ref ko, .ref ka, .ref kb, .ref kt, .ref kl, .ref kp])), (kf, .inl (ty.2.1, 2000, .inr (.inl fF))), (ko, .inl (ty.1, 2000, .inl oF)), (ka, .inl (ty.1, 2000, .inl aF)), (kb, .inl (ty.1, 2000, .inl bF)), (kt, .inl (ty.1, 8, .inl tF)), (kl, .inl (ty.1, 4096, .inl sF)), (kp, .inl (ty.1, 13, .inl pF)), (p0, .inr (0, [.int (nI nv), .ref py])), (py, .inl (ty.1, 30, .inl (zN pb))), (t0, .inr (3, [.int (nI tl), .long lf, .ref tz, .int pl, .int er])), (tz, .inl (ty.1, 300, .inl (zN tb))), (n0, .inr (5, [.int th, .ref np, .ref na, .int (nI (p2 10)), .ref nc, .int (nI es.length), .ref nf, .ref nq, .ref no, .ref nx, .ref ny, .ref nl, .ref nh, .ref nb, .ref nw, .int (nI nv), .ref nt, .int (nI tl), .int av, .int wr, .long lf])), (np, .inl (ty.1, 10, .inl (zN p2))), (na, .inl (ty.2.2, 10, .inl (zB al))), (nc, .inl (ty.2.2, 16, .inl (zB cs))), (nf, .inl (ty.2.1, 2000, .inr (.inl fM))), (nq, .inl (ty.1, 2000, .inl qM)), (no, .inl (ty.1, 2000, .inl oM)), (nx, .inl (ty.1, 2000, .inl aM)), (ny, .inl (ty.1, 2000, .inl bM)), (nl, .inl (ty.1, 1024, .inl lM)), (nh, .inl (ty.1, 2000, .inl hM)), (nb, .inl (ty.1, 8, .inl gM)), (nw, .inl (ty.1, 400, .inl (zN pb))), (nt, .inl (ty.1, 300, .inl (zN tb))), (oa, .inl (ty.2.1, 1, .inr (.inl fo)))]) : gG (g_IU A D s) p l e room_1 s m args below meth c Q 9 (40 + 2 * j) (27000 + 2030 * j) 928 [(4, .int (nI (6 * j))), (0, .ref b), (1, .ref x0), (2, .ref n0), (3, .ref oa)] [] [(x0, .inr (4, [.ref s0, .ref k0, .ref p0, .ref t0])), (s0, .inr (2, [.ref sp, .ref sa, .ref sc])), (sp, .inl (ty.1, 11, .inl (zN p2))), (sa, .inl (ty.2.2, 10, .inl (zB al))), (sc, .inl (ty.2.2, 16, .inl (zB cs))), (k0, .inr (1, [.int (nI es.length), .ref kf, .ref ko, .ref ka, .ref kb, .ref kt, .ref kl, .ref kp])), (kf, .inl (ty.2.1, 2000, .inr (.inl fF))), (ko, .inl (ty.1, 2000, .inl oF)), (ka, .inl (ty.1, 2000, .inl aF)), (kb, .inl (ty.1, 2000, .inl bF)), (kt, .inl (ty.1, 8, .inl tF)), (kl, .inl (ty.1, 4096, .inl sF)), (kp, .inl (ty.1, 13, .inl pF)), (p0, .inr (0, [.int (nI nv), .ref py])), (py, .inl (ty.1, 30, .inl (zN pb))), (t0, .inr (3, [.int (nI tl), .long lf, .ref tz, .int pl, .int er])), (tz, .inl (ty.1, 300, .inl (zN tb))), (n0, .inr (5, [.int th, .ref np, .ref na, .int (nI (p2 10)), .ref nc, .int (nI es.length), .ref nf, .ref nq, .ref no, .ref nx, .ref ny, .ref nl, .ref nh, .ref nb, .ref nw, .int (nI nv), .ref nt, .int (nI tl), .int av, .int wr, .long lf])), (np, .inl (ty.1, 10, .inl (zN p2))), (na, .inl (ty.2.2, 10, .inl (zB al))), (nc, .inl (ty.2.2, 16, .inl (zB cs))), (nf, .inl (ty.2.1, 2000, .inr (.inl fM))), (nq, .inl (ty.1, 2000, .inl qM)), (no, .inl (ty.1, 2000, .inl oM)), (nx, .inl (ty.1, 2000, .inl aM)), (ny, .inl (ty.1, 2000, .inl bM)), (nl, .inl (ty.1, 1024, .inl lM)), (nh, .inl (ty.1, 2000, .inl hM)), (nb, .inl (ty.1, 8, .inl gM)), (nw, .inl (ty.1, 400, .inl (zN pb))), (nt, .inl (ty.1, 300, .inl (zN tb))), (oa, .inl (ty.2.1, 1, .inr (.inl fo)))] := by
  have hRc : room_1.cells = 601024 := rfl
  have hRs : room_1.slots = 7293034 := rfl
  have hlen : es.length ≤ 2000 := hI.2.2.2.2
  refine g_aload_n C dL_law_928 2 rfl rfl ?_
  refine g_aload_n C dL_law_929 1 rfl rfl ?_
  refine g_iload C dL_law_930 0 rfl ?_
  refine g_iconst C dL_law_932 (v := (nI 1)) (by decide) ?_
  refine g_iadd C dL_law_933 (v := (nI (6 * j + 1))) (nI_add _ _) ?_
  refine g_sld C hsx hbl hbA hL (i := 6 * j + 1) (by omega) dL_law_934 ?_
  refine g_i2l C dL_law_935 (v := (Int32.toInt64 (xs (6 * j + 1)))) rfl ?_
  refine g_bipush C dL_law_936 (v := (nI 32)) (by decide) ?_
  refine g_lshl C dL_law_938 (v := (j_shl (Int32.toInt64 (xs (6 * j + 1))) (nI 32))) rfl ?_
  refine g_aload_n C dL_law_939 1 rfl rfl ?_
  refine g_iload C dL_law_940 0 rfl ?_
  refine g_iconst C dL_law_942 (v := (nI 2)) (by decide) ?_
  refine g_iadd C dL_law_943 (v := (nI (6 * j + 2))) (nI_add _ _) ?_
  refine g_sld C hsx hbl hbA hL (i := 6 * j + 2) (by omega) dL_law_944 ?_
  refine g_i2l C dL_law_945 (v := (Int32.toInt64 (xs (6 * j + 2)))) rfl ?_
  refine g_ldc2 C (v := (4294967295)) 7 rfl dL_law_946 ?_
  refine g_land C dL_law_949 (v := ((Int32.toInt64 (xs (6 * j + 2))) &&& (4294967295))) rfl ?_
  refine g_lor C dL_law_950 (v := (jj (xs (6 * j + 1)) (xs (6 * j + 2)))) rfl ?_
  refine g_aload_n C dL_law_951 1 rfl rfl ?_
  refine g_iload C dL_law_952 0 rfl ?_
  refine g_iconst C dL_law_954 (v := (nI 3)) (by decide) ?_
  refine g_iadd C dL_law_955 (v := (nI (6 * j + 3))) (nI_add _ _) ?_
  refine g_sld C hsx hbl hbA hL (i := 6 * j + 3) (by omega) dL_law_956 ?_
  refine g_aload_n C dL_law_957 4 rfl rfl ?_
  refine g_callUW C hX (t_L_is l hfl D ty s0 k0 p0 t0 x0 (jj (xs (6 * j + 1)) (xs (6 * j + 2))) (xs (6 * j + 3)) oa fo) rfl gL_law_L_is 4 (by decide +kernel) rfl ⟨rfl, rfl⟩ ⟨Nat.le_of_ble_eq_true rfl, Nat.le_of_ble_eq_true rfl⟩ (rest := []) hA [0, 31] [1, 2, 3, 4, 5, 6, 7, 8, 9, 10, 11, 12, 13, 14, 15, 16, 17, 18, 19, 20, 21, 22, 23, 24, 25, 26, 27, 28, 29, 30] rfl rfl rfl (wr := [(s0, .inr (2, [.ref sp, .ref sa, .ref sc])), (sp, .inl (ty.1, 11, .inl (zN p2))), (sa, .inl (ty.2.2, 10, .inl (zB al))), (sc, .inl (ty.2.2, 16, .inl (zB cs))), (k0, .inr (1, [.int (nI es.length), .ref kf, .ref ko, .ref ka, .ref kb, .ref kt, .ref kl, .ref kp])), (kf, .inl (ty.2.1, 2000, .inr (.inl fF))), (ko, .inl (ty.1, 2000, .inl oF)), (ka, .inl (ty.1, 2000, .inl aF)), (kb, .inl (ty.1, 2000, .inl bF)), (kt, .inl (ty.1, 8, .inl tF)), (kl, .inl (ty.1, 4096, .inl sF)), (kp, .inl (ty.1, 13, .inl pF)), (p0, .inr (0, [.int (nI nv), .ref py])), (py, .inl (ty.1, 30, .inl (zN pb))), (t0, .inr (3, [.int (nI tl), .long lf, .ref tz, .int pl, .int er])), (tz, .inl (ty.1, 300, .inl (zN tb))), (n0, .inr (5, [.int th, .ref np, .ref na, .int (nI (p2 10)), .ref nc, .int (nI es.length), .ref nf, .ref nq, .ref no, .ref nx, .ref ny, .ref nl, .ref nh, .ref nb, .ref nw, .int (nI nv), .ref nt, .int (nI tl), .int av, .int wr, .long lf])), (np, .inl (ty.1, 10, .inl (zN p2))), (na, .inl (ty.2.2, 10, .inl (zB al))), (nc, .inl (ty.2.2, 16, .inl (zB cs))), (nf, .inl (ty.2.1, 2000, .inr (.inl fM))), (nq, .inl (ty.1, 2000, .inl qM)), (no, .inl (ty.1, 2000, .inl oM)), (nx, .inl (ty.1, 2000, .inl aM)), (ny, .inl (ty.1, 2000, .inl bM)), (nl, .inl (ty.1, 1024, .inl lM)), (nh, .inl (ty.1, 2000, .inl hM)), (nb, .inl (ty.1, 8, .inl gM)), (nw, .inl (ty.1, 400, .inl (zN pb))), (nt, .inl (ty.1, 300, .inl (zN tb)))]) rfl rfl rfl (Nat.le_of_ble_eq_true rfl) dL_law_958 ⟨by rw [hRc]; omega, by rw [hRs]; omega⟩ rfl (g_kui (fun r w hr => ?_))
  rcases hr with ⟨k, hk, hok, rfl, rfl⟩ | ⟨hbad, rfl, rfl⟩
  · skip
    refine g_ws (ws' := [(x0, .inr (4, [.ref s0, .ref k0, .ref p0, .ref t0])), (s0, .inr (2, [.ref sp, .ref sa, .ref sc])), (sp, .inl (ty.1, 11, .inl (zN p2))), (sa, .inl (ty.2.2, 10, .inl (zB al))), (sc, .inl (ty.2.2, 16, .inl (zB cs))), (k0, .inr (1, [.int (nI es.length), .ref kf, .ref ko, .ref ka, .ref kb, .ref kt, .ref kl, .ref kp])), (kf, .inl (ty.2.1, 2000, .inr (.inl fF))), (ko, .inl (ty.1, 2000, .inl oF)), (ka, .inl (ty.1, 2000, .inl aF)), (kb, .inl (ty.1, 2000, .inl bF)), (kt, .inl (ty.1, 8, .inl tF)), (kl, .inl (ty.1, 4096, .inl sF)), (kp, .inl (ty.1, 13, .inl pF)), (p0, .inr (0, [.int (nI nv), .ref py])), (py, .inl (ty.1, 30, .inl (zN pb))), (t0, .inr (3, [.int (nI tl), .long lf, .ref tz, .int pl, .int er])), (tz, .inl (ty.1, 300, .inl (zN tb))), (n0, .inr (5, [.int th, .ref np, .ref na, .int (nI (p2 10)), .ref nc, .int (nI es.length), .ref nf, .ref nq, .ref no, .ref nx, .ref ny, .ref nl, .ref nh, .ref nb, .ref nw, .int (nI nv), .ref nt, .int (nI tl), .int av, .int wr, .long lf])), (np, .inl (ty.1, 10, .inl (zN p2))), (na, .inl (ty.2.2, 10, .inl (zB al))), (nc, .inl (ty.2.2, 16, .inl (zB cs))), (nf, .inl (ty.2.1, 2000, .inr (.inl fM))), (nq, .inl (ty.1, 2000, .inl qM)), (no, .inl (ty.1, 2000, .inl oM)), (nx, .inl (ty.1, 2000, .inl aM)), (ny, .inl (ty.1, 2000, .inl bM)), (nl, .inl (ty.1, 1024, .inl lM)), (nh, .inl (ty.1, 2000, .inl hM)), (nb, .inl (ty.1, 8, .inl gM)), (nw, .inl (ty.1, 400, .inl (zN pb))), (nt, .inl (ty.1, 300, .inl (zN tb))), (oa, .inl (ty.2.1, 1, .inr (.inl (vp_updL fo 0 (lN (isR (jj (xs (6 * j + 1)) (xs (6 * j + 2))) k).toNat)))))]) [30, 0, 1, 2, 3, 4, 5, 6, 7, 8, 9, 10, 11, 12, 13, 14, 15, 16, 17, 18, 19, 20, 21, 22, 23, 24, 25, 26, 27, 28, 29, 31] rfl rfl rfl ?_
    refine g_istore C dL_law_961 (by decide) (lv' := [(5, .int (nI 0)), (4, .int (nI (6 * j))), (0, .ref b), (1, .ref x0), (2, .ref n0), (3, .ref oa)]) rfl ?_
    refine g_aload_n C dL_law_963 4 rfl rfl ?_
    refine g_aload_n C dL_law_964 2 rfl rfl ?_
    refine g_iload C dL_law_965 1 rfl ?_
    refine g_iconst C dL_law_967 (v := (nI 1)) (by decide) ?_
    refine g_iadd C dL_law_968 (v := (nI (6 * j + 1))) (nI_add _ _) ?_
    refine g_sld C hsx hbl hbA hL (i := 6 * j + 1) (by omega) dL_law_969 ?_
    refine g_i2l C dL_law_970 (v := (Int32.toInt64 (xs (6 * j + 1)))) rfl ?_
    refine g_bipush C dL_law_971 (v := (nI 32)) (by decide) ?_
    refine g_lshl C dL_law_973 (v := (j_shl (Int32.toInt64 (xs (6 * j + 1))) (nI 32))) rfl ?_
    refine g_aload_n C dL_law_974 2 rfl rfl ?_
    refine g_iload C dL_law_975 1 rfl ?_
    refine g_iconst C dL_law_977 (v := (nI 2)) (by decide) ?_
    refine g_iadd C dL_law_978 (v := (nI (6 * j + 2))) (nI_add _ _) ?_
    refine g_sld C hsx hbl hbA hL (i := 6 * j + 2) (by omega) dL_law_979 ?_
    refine g_i2l C dL_law_980 (v := (Int32.toInt64 (xs (6 * j + 2)))) rfl ?_
    refine g_ldc2 C (v := (4294967295)) 7 rfl dL_law_981 ?_
    refine g_land C dL_law_984 (v := ((Int32.toInt64 (xs (6 * j + 2))) &&& (4294967295))) rfl ?_
    refine g_lor C dL_law_985 (v := (jj (xs (6 * j + 1)) (xs (6 * j + 2)))) rfl ?_
    refine g_aload_n C dL_law_986 2 rfl rfl ?_
    refine g_iload C dL_law_987 1 rfl ?_
    refine g_iconst C dL_law_989 (v := (nI 3)) (by decide) ?_
    refine g_iadd C dL_law_990 (v := (nI (6 * j + 3))) (nI_add _ _) ?_
    refine g_sld C hsx hbl hbA hL (i := 6 * j + 3) (by omega) dL_law_991 ?_
    refine g_callUV C ⟨g_X0_ok, trivial⟩ (t_X6_is l D ty n0 np na nc nf nq no nx ny nl nh nb nw nt th (nI (p2 10)) (nI nv) (nI tl) av wr lf (nI es.length) (jj (xs (6 * j + 1)) (xs (6 * j + 2))) (xs (6 * j + 3))) rfl gL_law_X6_is 2 (by decide +kernel) rfl ⟨rfl, rfl⟩ ⟨Nat.le_of_ble_eq_true rfl, Nat.le_of_ble_eq_true rfl⟩ (rest := []) (q0 := 17) rfl rfl hA [17] [0, 1, 2, 3, 4, 5, 6, 7, 8, 9, 10, 11, 12, 13, 14, 15, 16, 18, 19, 20, 21, 22, 23, 24, 25, 26, 27, 28, 29, 30, 31] rfl rfl rfl (wr := [(x0, .inr (4, [.ref s0, .ref k0, .ref p0, .ref t0])), (s0, .inr (2, [.ref sp, .ref sa, .ref sc])), (sp, .inl (ty.1, 11, .inl (zN p2))), (sa, .inl (ty.2.2, 10, .inl (zB al))), (sc, .inl (ty.2.2, 16, .inl (zB cs))), (k0, .inr (1, [.int (nI es.length), .ref kf, .ref ko, .ref ka, .ref kb, .ref kt, .ref kl, .ref kp])), (kf, .inl (ty.2.1, 2000, .inr (.inl fF))), (ko, .inl (ty.1, 2000, .inl oF)), (ka, .inl (ty.1, 2000, .inl aF)), (kb, .inl (ty.1, 2000, .inl bF)), (kt, .inl (ty.1, 8, .inl tF)), (kl, .inl (ty.1, 4096, .inl sF)), (kp, .inl (ty.1, 13, .inl pF)), (p0, .inr (0, [.int (nI nv), .ref py])), (py, .inl (ty.1, 30, .inl (zN pb))), (t0, .inr (3, [.int (nI tl), .long lf, .ref tz, .int pl, .int er])), (tz, .inl (ty.1, 300, .inl (zN tb))), (np, .inl (ty.1, 10, .inl (zN p2))), (na, .inl (ty.2.2, 10, .inl (zB al))), (nc, .inl (ty.2.2, 16, .inl (zB cs))), (nf, .inl (ty.2.1, 2000, .inr (.inl fM))), (nq, .inl (ty.1, 2000, .inl qM)), (no, .inl (ty.1, 2000, .inl oM)), (nx, .inl (ty.1, 2000, .inl aM)), (ny, .inl (ty.1, 2000, .inl bM)), (nl, .inl (ty.1, 1024, .inl lM)), (nh, .inl (ty.1, 2000, .inl hM)), (nb, .inl (ty.1, 8, .inl gM)), (nw, .inl (ty.1, 400, .inl (zN pb))), (nt, .inl (ty.1, 300, .inl (zN tb))), (oa, .inl (ty.2.1, 1, .inr (.inl (vp_updL fo 0 (lN (isR (jj (xs (6 * j + 1)) (xs (6 * j + 2))) k).toNat)))))]) rfl rfl rfl (Nat.le_of_ble_eq_true rfl) dL_law_992 ⟨by rw [hRc]; omega, by rw [hRs]; omega⟩ rfl (g_kui (fun r w hr => ?_))
    rcases hr with ⟨k2, hk2, hok2, hr2, rfl⟩ | ⟨hbad2, rfl, rfl⟩
    · skip
      obtain rfl := nI_ij (by omega) (by omega) (hok.symm.trans hok2)
      rw [← is_eq hk] at hr2
      subst hr2
      have hbt := bt_lt (isR (jj (xs (6 * j + 1)) (xs (6 * j + 2))) k)
      refine g_ws (ws' := [(x0, .inr (4, [.ref s0, .ref k0, .ref p0, .ref t0])), (s0, .inr (2, [.ref sp, .ref sa, .ref sc])), (sp, .inl (ty.1, 11, .inl (zN p2))), (sa, .inl (ty.2.2, 10, .inl (zB al))), (sc, .inl (ty.2.2, 16, .inl (zB cs))), (k0, .inr (1, [.int (nI es.length), .ref kf, .ref ko, .ref ka, .ref kb, .ref kt, .ref kl, .ref kp])), (kf, .inl (ty.2.1, 2000, .inr (.inl fF))), (ko, .inl (ty.1, 2000, .inl oF)), (ka, .inl (ty.1, 2000, .inl aF)), (kb, .inl (ty.1, 2000, .inl bF)), (kt, .inl (ty.1, 8, .inl tF)), (kl, .inl (ty.1, 4096, .inl sF)), (kp, .inl (ty.1, 13, .inl pF)), (p0, .inr (0, [.int (nI nv), .ref py])), (py, .inl (ty.1, 30, .inl (zN pb))), (t0, .inr (3, [.int (nI tl), .long lf, .ref tz, .int pl, .int er])), (tz, .inl (ty.1, 300, .inl (zN tb))), (n0, .inr (5, [.int (nI 0), .ref np, .ref na, .int (nI (p2 10)), .ref nc, .int (nI es.length), .ref nf, .ref nq, .ref no, .ref nx, .ref ny, .ref nl, .ref nh, .ref nb, .ref nw, .int (nI nv), .ref nt, .int (nI tl), .int av, .int wr, .long lf])), (np, .inl (ty.1, 10, .inl (zN p2))), (na, .inl (ty.2.2, 10, .inl (zB al))), (nc, .inl (ty.2.2, 16, .inl (zB cs))), (nf, .inl (ty.2.1, 2000, .inr (.inl fM))), (nq, .inl (ty.1, 2000, .inl qM)), (no, .inl (ty.1, 2000, .inl oM)), (nx, .inl (ty.1, 2000, .inl aM)), (ny, .inl (ty.1, 2000, .inl bM)), (nl, .inl (ty.1, 1024, .inl lM)), (nh, .inl (ty.1, 2000, .inl hM)), (nb, .inl (ty.1, 8, .inl gM)), (nw, .inl (ty.1, 400, .inl (zN pb))), (nt, .inl (ty.1, 300, .inl (zN tb))), (oa, .inl (ty.2.1, 1, .inr (.inl (vp_updL fo 0 (lN (isR (jj (xs (6 * j + 1)) (xs (6 * j + 2))) k).toNat)))))]) [0, 1, 2, 3, 4, 5, 6, 7, 8, 9, 10, 11, 12, 13, 14, 15, 16, 31, 17, 18, 19, 20, 21, 22, 23, 24, 25, 26, 27, 28, 29, 30] rfl rfl rfl ?_
      refine g_istore C dL_law_995 (by decide) (lv' := [(6, .int (nI ((isR (jj (xs (6 * j + 1)) (xs (6 * j + 2))) k).toNat))), (5, .int (nI 0)), (4, .int (nI (6 * j))), (0, .ref b), (1, .ref x0), (2, .ref n0), (3, .ref oa)]) rfl ?_
      refine g_aload_n C dL_law_997 5 rfl rfl ?_
      refine g_callPV C ⟨g_X0_ok, trivial⟩ (t_X6_thrown l D ty n0 np na nc nf nq no nx ny nl nh nb nw nt (nI 0) (nI (p2 10)) (nI nv) (nI tl) av wr lf (nI es.length)) rfl gL_law_X6_thrown 0 (by decide +kernel) rfl ⟨rfl, rfl⟩ ⟨Nat.le_of_ble_eq_true rfl, Nat.le_of_ble_eq_true rfl⟩ (rest := []) (q0 := 17) rfl rfl [17] rfl (Nat.le_of_ble_eq_true rfl) dL_law_998 ⟨by rw [hRc]; omega, by rw [hRs]; omega⟩ rfl (g_ki (fun r hr => ?_))
      subst hr
      refine g_iload C dL_law_1001 1 rfl ?_
      refine g_icmp_eqN C dL_law_1003 (tgt := 1008) (by decide) (by omega) (by omega) (fun h1003 => ?_) (fun h1003 => ?_)
      · skip
        refine g_iload C dL_law_1008 1 rfl ?_
        refine g_if_neN C dL_law_1010 (tgt := 1032) (by decide) (by omega) (fun h1010 => ?_) (fun h1010 => ?_)
        · skip
          exact absurd rfl h1010
        · skip
          refine g_aload_n C dL_law_1013 6 rfl rfl ?_
          refine g_iconst C dL_law_1014 (v := (nI 0)) (by decide) ?_
          refine g_lald C (v := (lN (isR (jj (xs (6 * j + 1)) (xs (6 * j + 2))) k).toNat)) 31 rfl (by omega) (by omega) (pk_uLs) dL_law_1015 ?_
          refine g_iload C dL_law_1016 0 rfl ?_
          refine g_if_eqN C dL_law_1018 (tgt := 1025) (by decide) (by omega) (fun h1018 => ?_) (fun h1018 => ?_)
          · skip
            refine g_lconst C dL_law_1025 (v := (lN (isR (jj (xs (6 * j + 1)) (xs (6 * j + 2))) k).toNat)) (l0_f h1018) ?_
            refine g_lcmp C dL_law_1026 ?_
            refine g_if_eq C dL_law_1027 (tgt := 1032) (by decide) (fun h1027 => ?_) (fun h1027 => ?_)
            · skip
              refine g_goto C dL_law_1032 (tgt := 1907) (by decide) ?_
              refine g_lv [2, 3, 4, 5, 6] rfl ?_
              refine g_wid (k0 := (40 + 2 * (j + 1))) (n0 := (27000 + 2030 * (j + 1))) (by omega) (by omega) ?_
              exact ih1907 p2 al cs es st fF oF aF bF tF sF pF fM qM oM aM bM lM hM gM nv pb tl tb lf pl er (nI 0) av wr (vp_updL fo 0 (lN (isR (jj (xs (6 * j + 1)) (xs (6 * j + 2))) k).toNat)) (by omega) hp hw ht hmo hI hnv htl hb
            · skip
              exact absurd (lg_eq rfl) h1027
          · skip
            refine g_lconst C dL_law_1021 (v := (lN (isR (jj (xs (6 * j + 1)) (xs (6 * j + 2))) k).toNat)) (l1_t h1018) ?_
            refine g_goto C dL_law_1022 (tgt := 1026) (by decide) ?_
            refine g_lcmp C dL_law_1026 ?_
            refine g_if_eq C dL_law_1027 (tgt := 1032) (by decide) (fun h1027 => ?_) (fun h1027 => ?_)
            · skip
              refine g_goto C dL_law_1032 (tgt := 1907) (by decide) ?_
              refine g_lv [2, 3, 4, 5, 6] rfl ?_
              refine g_wid (k0 := (40 + 2 * (j + 1))) (n0 := (27000 + 2030 * (j + 1))) (by omega) (by omega) ?_
              exact ih1907 p2 al cs es st fF oF aF bF tF sF pF fM qM oM aM bM lM hM gM nv pb tl tb lf pl er (nI 0) av wr (vp_updL fo 0 (lN (isR (jj (xs (6 * j + 1)) (xs (6 * j + 2))) k).toNat)) (by omega) hp hw ht hmo hI hnv htl hb
            · skip
              exact absurd (lg_eq rfl) h1027
      · skip
        exact absurd rfl h1003
    · skip
      rw [hok, nI_toInt (by omega)] at hbad2
      omega
  · skip
    refine g_ws (ws' := [(x0, .inr (4, [.ref s0, .ref k0, .ref p0, .ref t0])), (s0, .inr (2, [.ref sp, .ref sa, .ref sc])), (sp, .inl (ty.1, 11, .inl (zN p2))), (sa, .inl (ty.2.2, 10, .inl (zB al))), (sc, .inl (ty.2.2, 16, .inl (zB cs))), (k0, .inr (1, [.int (nI es.length), .ref kf, .ref ko, .ref ka, .ref kb, .ref kt, .ref kl, .ref kp])), (kf, .inl (ty.2.1, 2000, .inr (.inl fF))), (ko, .inl (ty.1, 2000, .inl oF)), (ka, .inl (ty.1, 2000, .inl aF)), (kb, .inl (ty.1, 2000, .inl bF)), (kt, .inl (ty.1, 8, .inl tF)), (kl, .inl (ty.1, 4096, .inl sF)), (kp, .inl (ty.1, 13, .inl pF)), (p0, .inr (0, [.int (nI nv), .ref py])), (py, .inl (ty.1, 30, .inl (zN pb))), (t0, .inr (3, [.int (nI tl), .long lf, .ref tz, .int pl, .int er])), (tz, .inl (ty.1, 300, .inl (zN tb))), (n0, .inr (5, [.int th, .ref np, .ref na, .int (nI (p2 10)), .ref nc, .int (nI es.length), .ref nf, .ref nq, .ref no, .ref nx, .ref ny, .ref nl, .ref nh, .ref nb, .ref nw, .int (nI nv), .ref nt, .int (nI tl), .int av, .int wr, .long lf])), (np, .inl (ty.1, 10, .inl (zN p2))), (na, .inl (ty.2.2, 10, .inl (zB al))), (nc, .inl (ty.2.2, 16, .inl (zB cs))), (nf, .inl (ty.2.1, 2000, .inr (.inl fM))), (nq, .inl (ty.1, 2000, .inl qM)), (no, .inl (ty.1, 2000, .inl oM)), (nx, .inl (ty.1, 2000, .inl aM)), (ny, .inl (ty.1, 2000, .inl bM)), (nl, .inl (ty.1, 1024, .inl lM)), (nh, .inl (ty.1, 2000, .inl hM)), (nb, .inl (ty.1, 8, .inl gM)), (nw, .inl (ty.1, 400, .inl (zN pb))), (nt, .inl (ty.1, 300, .inl (zN tb))), (oa, .inl (ty.2.1, 1, .inr (.inl fo)))]) [30, 0, 1, 2, 3, 4, 5, 6, 7, 8, 9, 10, 11, 12, 13, 14, 15, 16, 17, 18, 19, 20, 21, 22, 23, 24, 25, 26, 27, 28, 29, 31] rfl rfl rfl ?_
    refine g_istore C dL_law_961 (by decide) (lv' := [(5, .int (nI 1)), (4, .int (nI (6 * j))), (0, .ref b), (1, .ref x0), (2, .ref n0), (3, .ref oa)]) rfl ?_
    refine g_aload_n C dL_law_963 4 rfl rfl ?_
    refine g_aload_n C dL_law_964 2 rfl rfl ?_
    refine g_iload C dL_law_965 1 rfl ?_
    refine g_iconst C dL_law_967 (v := (nI 1)) (by decide) ?_
    refine g_iadd C dL_law_968 (v := (nI (6 * j + 1))) (nI_add _ _) ?_
    refine g_sld C hsx hbl hbA hL (i := 6 * j + 1) (by omega) dL_law_969 ?_
    refine g_i2l C dL_law_970 (v := (Int32.toInt64 (xs (6 * j + 1)))) rfl ?_
    refine g_bipush C dL_law_971 (v := (nI 32)) (by decide) ?_
    refine g_lshl C dL_law_973 (v := (j_shl (Int32.toInt64 (xs (6 * j + 1))) (nI 32))) rfl ?_
    refine g_aload_n C dL_law_974 2 rfl rfl ?_
    refine g_iload C dL_law_975 1 rfl ?_
    refine g_iconst C dL_law_977 (v := (nI 2)) (by decide) ?_
    refine g_iadd C dL_law_978 (v := (nI (6 * j + 2))) (nI_add _ _) ?_
    refine g_sld C hsx hbl hbA hL (i := 6 * j + 2) (by omega) dL_law_979 ?_
    refine g_i2l C dL_law_980 (v := (Int32.toInt64 (xs (6 * j + 2)))) rfl ?_
    refine g_ldc2 C (v := (4294967295)) 7 rfl dL_law_981 ?_
    refine g_land C dL_law_984 (v := ((Int32.toInt64 (xs (6 * j + 2))) &&& (4294967295))) rfl ?_
    refine g_lor C dL_law_985 (v := (jj (xs (6 * j + 1)) (xs (6 * j + 2)))) rfl ?_
    refine g_aload_n C dL_law_986 2 rfl rfl ?_
    refine g_iload C dL_law_987 1 rfl ?_
    refine g_iconst C dL_law_989 (v := (nI 3)) (by decide) ?_
    refine g_iadd C dL_law_990 (v := (nI (6 * j + 3))) (nI_add _ _) ?_
    refine g_sld C hsx hbl hbA hL (i := 6 * j + 3) (by omega) dL_law_991 ?_
    refine g_callUV C ⟨g_X0_ok, trivial⟩ (t_X6_is l D ty n0 np na nc nf nq no nx ny nl nh nb nw nt th (nI (p2 10)) (nI nv) (nI tl) av wr lf (nI es.length) (jj (xs (6 * j + 1)) (xs (6 * j + 2))) (xs (6 * j + 3))) rfl gL_law_X6_is 2 (by decide +kernel) rfl ⟨rfl, rfl⟩ ⟨Nat.le_of_ble_eq_true rfl, Nat.le_of_ble_eq_true rfl⟩ (rest := []) (q0 := 17) rfl rfl hA [17] [0, 1, 2, 3, 4, 5, 6, 7, 8, 9, 10, 11, 12, 13, 14, 15, 16, 18, 19, 20, 21, 22, 23, 24, 25, 26, 27, 28, 29, 30, 31] rfl rfl rfl (wr := [(x0, .inr (4, [.ref s0, .ref k0, .ref p0, .ref t0])), (s0, .inr (2, [.ref sp, .ref sa, .ref sc])), (sp, .inl (ty.1, 11, .inl (zN p2))), (sa, .inl (ty.2.2, 10, .inl (zB al))), (sc, .inl (ty.2.2, 16, .inl (zB cs))), (k0, .inr (1, [.int (nI es.length), .ref kf, .ref ko, .ref ka, .ref kb, .ref kt, .ref kl, .ref kp])), (kf, .inl (ty.2.1, 2000, .inr (.inl fF))), (ko, .inl (ty.1, 2000, .inl oF)), (ka, .inl (ty.1, 2000, .inl aF)), (kb, .inl (ty.1, 2000, .inl bF)), (kt, .inl (ty.1, 8, .inl tF)), (kl, .inl (ty.1, 4096, .inl sF)), (kp, .inl (ty.1, 13, .inl pF)), (p0, .inr (0, [.int (nI nv), .ref py])), (py, .inl (ty.1, 30, .inl (zN pb))), (t0, .inr (3, [.int (nI tl), .long lf, .ref tz, .int pl, .int er])), (tz, .inl (ty.1, 300, .inl (zN tb))), (np, .inl (ty.1, 10, .inl (zN p2))), (na, .inl (ty.2.2, 10, .inl (zB al))), (nc, .inl (ty.2.2, 16, .inl (zB cs))), (nf, .inl (ty.2.1, 2000, .inr (.inl fM))), (nq, .inl (ty.1, 2000, .inl qM)), (no, .inl (ty.1, 2000, .inl oM)), (nx, .inl (ty.1, 2000, .inl aM)), (ny, .inl (ty.1, 2000, .inl bM)), (nl, .inl (ty.1, 1024, .inl lM)), (nh, .inl (ty.1, 2000, .inl hM)), (nb, .inl (ty.1, 8, .inl gM)), (nw, .inl (ty.1, 400, .inl (zN pb))), (nt, .inl (ty.1, 300, .inl (zN tb))), (oa, .inl (ty.2.1, 1, .inr (.inl fo)))]) rfl rfl rfl (Nat.le_of_ble_eq_true rfl) dL_law_992 ⟨by rw [hRc]; omega, by rw [hRs]; omega⟩ rfl (g_kui (fun r w hr => ?_))
    rcases hr with ⟨k2, hk2, hok2, hr2, rfl⟩ | ⟨hbad2, rfl, rfl⟩
    · skip
      rw [hok2, nI_toInt (by omega)] at hbad
      omega
    · skip
      refine g_ws (ws' := [(x0, .inr (4, [.ref s0, .ref k0, .ref p0, .ref t0])), (s0, .inr (2, [.ref sp, .ref sa, .ref sc])), (sp, .inl (ty.1, 11, .inl (zN p2))), (sa, .inl (ty.2.2, 10, .inl (zB al))), (sc, .inl (ty.2.2, 16, .inl (zB cs))), (k0, .inr (1, [.int (nI es.length), .ref kf, .ref ko, .ref ka, .ref kb, .ref kt, .ref kl, .ref kp])), (kf, .inl (ty.2.1, 2000, .inr (.inl fF))), (ko, .inl (ty.1, 2000, .inl oF)), (ka, .inl (ty.1, 2000, .inl aF)), (kb, .inl (ty.1, 2000, .inl bF)), (kt, .inl (ty.1, 8, .inl tF)), (kl, .inl (ty.1, 4096, .inl sF)), (kp, .inl (ty.1, 13, .inl pF)), (p0, .inr (0, [.int (nI nv), .ref py])), (py, .inl (ty.1, 30, .inl (zN pb))), (t0, .inr (3, [.int (nI tl), .long lf, .ref tz, .int pl, .int er])), (tz, .inl (ty.1, 300, .inl (zN tb))), (n0, .inr (5, [.int (nI 1), .ref np, .ref na, .int (nI (p2 10)), .ref nc, .int (nI es.length), .ref nf, .ref nq, .ref no, .ref nx, .ref ny, .ref nl, .ref nh, .ref nb, .ref nw, .int (nI nv), .ref nt, .int (nI tl), .int av, .int wr, .long lf])), (np, .inl (ty.1, 10, .inl (zN p2))), (na, .inl (ty.2.2, 10, .inl (zB al))), (nc, .inl (ty.2.2, 16, .inl (zB cs))), (nf, .inl (ty.2.1, 2000, .inr (.inl fM))), (nq, .inl (ty.1, 2000, .inl qM)), (no, .inl (ty.1, 2000, .inl oM)), (nx, .inl (ty.1, 2000, .inl aM)), (ny, .inl (ty.1, 2000, .inl bM)), (nl, .inl (ty.1, 1024, .inl lM)), (nh, .inl (ty.1, 2000, .inl hM)), (nb, .inl (ty.1, 8, .inl gM)), (nw, .inl (ty.1, 400, .inl (zN pb))), (nt, .inl (ty.1, 300, .inl (zN tb))), (oa, .inl (ty.2.1, 1, .inr (.inl fo)))]) [0, 1, 2, 3, 4, 5, 6, 7, 8, 9, 10, 11, 12, 13, 14, 15, 16, 31, 17, 18, 19, 20, 21, 22, 23, 24, 25, 26, 27, 28, 29, 30] rfl rfl rfl ?_
      refine g_istore C dL_law_995 (by decide) (lv' := [(6, .int (nI 0)), (5, .int (nI 1)), (4, .int (nI (6 * j))), (0, .ref b), (1, .ref x0), (2, .ref n0), (3, .ref oa)]) rfl ?_
      refine g_aload_n C dL_law_997 5 rfl rfl ?_
      refine g_callPV C ⟨g_X0_ok, trivial⟩ (t_X6_thrown l D ty n0 np na nc nf nq no nx ny nl nh nb nw nt (nI 1) (nI (p2 10)) (nI nv) (nI tl) av wr lf (nI es.length)) rfl gL_law_X6_thrown 0 (by decide +kernel) rfl ⟨rfl, rfl⟩ ⟨Nat.le_of_ble_eq_true rfl, Nat.le_of_ble_eq_true rfl⟩ (rest := []) (q0 := 17) rfl rfl [17] rfl (Nat.le_of_ble_eq_true rfl) dL_law_998 ⟨by rw [hRc]; omega, by rw [hRs]; omega⟩ rfl (g_ki (fun r hr => ?_))
      subst hr
      refine g_iload C dL_law_1001 1 rfl ?_
      refine g_icmp_eqN C dL_law_1003 (tgt := 1008) (by decide) (by omega) (by omega) (fun h1003 => ?_) (fun h1003 => ?_)
      · skip
        refine g_iload C dL_law_1008 1 rfl ?_
        refine g_if_neN C dL_law_1010 (tgt := 1032) (by decide) (by omega) (fun h1010 => ?_) (fun h1010 => ?_)
        · skip
          refine g_goto C dL_law_1032 (tgt := 1907) (by decide) ?_
          refine g_lv [2, 3, 4, 5, 6] rfl ?_
          refine g_wid (k0 := (40 + 2 * (j + 1))) (n0 := (27000 + 2030 * (j + 1))) (by omega) (by omega) ?_
          exact ih1907 p2 al cs es st fF oF aF bF tF sF pF fM qM oM aM bM lM hM gM nv pb tl tb lf pl er (nI 1) av wr fo (by omega) hp hw ht hmo hI hnv htl hb
        · skip
          exact absurd h1010 (by decide)
      · skip
        exact absurd rfl h1003


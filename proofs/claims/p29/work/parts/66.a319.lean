set_option maxHeartbeats 4000000 in
set_option maxRecDepth 100000 in
theorem ls_319 {p : Program} {e : Env} {s : State} {m : MethodId} {args : Array Value} {below : List Frame} {meth : Method} {c : Code} {Q : State → Prop} {A : Nat → Prop} (l : Launch) (hfl : l.stackTraces = false) (D : va_G) (ty : g_T3) (C : g_Cx (g_IU A D s) p s m args c code 12 A D ty RL wsL_law) (hA : ∀ q, s.heap.size ≤ q → A q) (hX : g_Xok g_XT ∧ g_XT A s) {b L : Nat} {xs : Nat → Int32} (hsx : va_X b L xs s s.heap) (hbl : b < s.heap.size) (hbA : ¬ A b) (hL : L ≤ 260) (hEnd : ∀ (cells slots : Nat) (lv : g_Lv) (ws : va_W), cells ≤ 600086 → slots ≤ 7301442 → gG (g_IU A D s) p l e room_1 s m args below meth c Q 12 cells slots 604 lv [.int (nI 1)] ws) (x0 s0 sp sa sc k0 kf ko ka kb kt kl kp p0 t0 y0 z0 zp za zc m0 mf mo ma mb mt ml mp w0 u0 oa : Nat) (p2 : Nat → Nat) (al : Nat → Bool) (bl : Nat → Bool) (cs : Nat → Bool) (ct : Nat → Bool) (bu : Nat) (st : Nat → Nat) (su : Nat → Nat) (es : List Ent) (fF : Nat → Int64) (oF : Nat → Int32) (aF : Nat → Int32) (bF : Nat → Int32) (tF : Nat → Int32) (sF : Nat → Int32) (ds : List Ent) (gF : Nat → Int64) (qF : Nat → Int32) (cF : Nat → Int32) (dF : Nat → Int32) (uF : Nat → Int32) (vF : Nat → Int32) (fo : Nat → Int64) (hp : (∀ k, k < 10 → 1 ≤ p2 k ∧ p2 k ≤ 5) ∧ p2 10 ≤ 5) (hbu : bu ≤ 2) (hw : rowOk es fF oF aF bF sF) (hv : rowOk ds gF qF cF dF vF) (ht : ∀ j, j < 8 → tF j = nI (st j)) (hu : ∀ j, j < 8 → uF j = nI (su j)) (hI : stI es st) (hJ : stI ds su) (hes : es = (sq p2 al cs bu 8).2) (hco : ∀ i, i < es.length → eC es i ≤ bu) (hfa : ∀ j, j < es.length → fo j = eF es j) (hM : ds.length < 2000 → ∀ i, i < es.length → ∃ x, x < ds.length ∧ eF ds x = eF es i ∧ eC ds x ≤ eC es i) : ∀ (n9 : Nat) (i : Nat), es.length - i < n9 → (i ≤ es.length) → gG (g_IU A D s) p l e room_1 s m args below meth c Q 12 (10090 + 2 * i) (87310 + 12 * i) 319 [(8, .int (nI i)), (7, .int (nI ds.length)), (5, .int (nI es.length)), (6, .ref oa), (1, .ref x0), (2, .ref y0), (4, .int (nI bu)), (0, .ref b)] [] [(x0, .inr (4, [.ref s0, .ref k0, .ref p0, .ref t0])), (s0, .inr (2, [.ref sp, .ref sa, .ref sc])), (sp, .inl (ty.1, 11, .inl (zN p2))), (sa, .inl (ty.2.2, 10, .inl (zB al))), (sc, .inl (ty.2.2, 16, .inl (zB cs))), (k0, .inr (1, [.int (nI es.length), .ref kf, .ref ko, .ref ka, .ref kb, .ref kt, .ref kl, .ref kp])), (kf, .inl (ty.2.1, 2000, .inr (.inl fF))), (ko, .inl (ty.1, 2000, .inl oF)), (ka, .inl (ty.1, 2000, .inl aF)), (kb, .inl (ty.1, 2000, .inl bF)), (kt, .inl (ty.1, 8, .inl tF)), (kl, .inl (ty.1, 4096, .inl sF)), (y0, .inr (4, [.ref z0, .ref m0, .ref w0, .ref u0])), (z0, .inr (2, [.ref zp, .ref za, .ref zc])), (zp, .inl (ty.1, 11, .inl (zN p2))), (za, .inl (ty.2.2, 10, .inl (zB bl))), (zc, .inl (ty.2.2, 16, .inl (zB ct))), (m0, .inr (1, [.int (nI ds.length), .ref mf, .ref mo, .ref ma, .ref mb, .ref mt, .ref ml, .ref mp])), (mf, .inl (ty.2.1, 2000, .inr (.inl gF))), (mo, .inl (ty.1, 2000, .inl qF)), (ma, .inl (ty.1, 2000, .inl cF)), (mb, .inl (ty.1, 2000, .inl dF)), (mt, .inl (ty.1, 8, .inl uF)), (ml, .inl (ty.1, 4096, .inl vF)), (oa, .inl (ty.2.1, es.length, .inr (.inl fo)))] := by
  intro n9
  induction n9 with
  | zero => intro i hn; exact absurd hn (Nat.not_lt_zero _)
  | succ n9 ih319 =>
    intro i hn9 hi
    have hRc : room_1.cells = 600086 := rfl
    have hRs : room_1.slots = 7301442 := rfl
    have hlen : es.length ≤ 2000 := hI.2.2.2.2
    have hlen2 : ds.length ≤ 2000 := hJ.2.2.2.2
    refine g_iload C dL_law_319 0 rfl ?_
    refine g_iload C dL_law_321 2 rfl ?_
    refine g_icmp_geN C dL_law_323 (tgt := 375) (by decide) (by omega) (by omega) (fun h323 => ?_) (fun h323 => ?_)
    · skip
      refine g_lv (lv' := [(5, .int (nI es.length)), (6, .ref oa), (1, .ref x0), (4, .int (nI bu)), (0, .ref b)]) [2, 3, 4, 6, 7] rfl ?_
      refine g_ws (ws' := [(x0, .inr (4, [.ref s0, .ref k0, .ref p0, .ref t0])), (s0, .inr (2, [.ref sp, .ref sa, .ref sc])), (sp, .inl (ty.1, 11, .inl (zN p2))), (sa, .inl (ty.2.2, 10, .inl (zB al))), (sc, .inl (ty.2.2, 16, .inl (zB cs))), (k0, .inr (1, [.int (nI es.length), .ref kf, .ref ko, .ref ka, .ref kb, .ref kt, .ref kl, .ref kp])), (kf, .inl (ty.2.1, 2000, .inr (.inl fF))), (ko, .inl (ty.1, 2000, .inl oF)), (ka, .inl (ty.1, 2000, .inl aF)), (kb, .inl (ty.1, 2000, .inl bF)), (kt, .inl (ty.1, 8, .inl tF)), (kl, .inl (ty.1, 4096, .inl sF)), (oa, .inl (ty.2.1, es.length, .inr (.inl fo)))]) [0, 1, 2, 3, 4, 5, 6, 7, 8, 9, 10, 11, 24] rfl rfl rfl ?_
      refine g_wid (k0 := (14090)) (n0 := (111310)) (by omega) (by omega) ?_
      exact ls_375 l hfl D ty C hA hX hsx hbl hbA hL hEnd x0 s0 sp sa sc k0 kf ko ka kb kt kl kp p0 t0 oa p2 al cs bu es fF oF aF bF tF sF fo hp hbu hw hes hfa
    · skip
      refine g_iload C dL_law_326 1 rfl ?_
      refine g_sipush C dL_law_328 (v := (nI 2000)) (by decide) ?_
      refine g_icmp_geN C dL_law_331 (tgt := 375) (by decide) (by omega) (by omega) (fun h331 => ?_) (fun h331 => ?_)
      · skip
        refine g_lv (lv' := [(5, .int (nI es.length)), (6, .ref oa), (1, .ref x0), (4, .int (nI bu)), (0, .ref b)]) [2, 3, 4, 6, 7] rfl ?_
        refine g_ws (ws' := [(x0, .inr (4, [.ref s0, .ref k0, .ref p0, .ref t0])), (s0, .inr (2, [.ref sp, .ref sa, .ref sc])), (sp, .inl (ty.1, 11, .inl (zN p2))), (sa, .inl (ty.2.2, 10, .inl (zB al))), (sc, .inl (ty.2.2, 16, .inl (zB cs))), (k0, .inr (1, [.int (nI es.length), .ref kf, .ref ko, .ref ka, .ref kb, .ref kt, .ref kl, .ref kp])), (kf, .inl (ty.2.1, 2000, .inr (.inl fF))), (ko, .inl (ty.1, 2000, .inl oF)), (ka, .inl (ty.1, 2000, .inl aF)), (kb, .inl (ty.1, 2000, .inl bF)), (kt, .inl (ty.1, 8, .inl tF)), (kl, .inl (ty.1, 4096, .inl sF)), (oa, .inl (ty.2.1, es.length, .inr (.inl fo)))]) [0, 1, 2, 3, 4, 5, 6, 7, 8, 9, 10, 11, 24] rfl rfl rfl ?_
        refine g_wid (k0 := (14090)) (n0 := (111310)) (by omega) (by omega) ?_
        exact ls_375 l hfl D ty C hA hX hsx hbl hbA hL hEnd x0 s0 sp sa sc k0 kf ko ka kb kt kl kp p0 t0 oa p2 al cs bu es fF oF aF bF tF sF fo hp hbu hw hes hfa
      · skip
        obtain ⟨x9, hx9, hf9, hc9⟩ := hM h331 i h323
        have hc8 := hco i h323
        refine g_aload_n C dL_law_334 5 rfl rfl ?_
        refine g_aload C dL_law_335 3 rfl ?_
        refine g_iload C dL_law_337 0 rfl ?_
        refine g_lald C (v := (eF es i)) 24 rfl (by omega) (by omega) (hfa i h323) dL_law_339 ?_
        refine g_callPV C ⟨g_X0_ok, trivial⟩ (t_X5_find l D ty y0 z0 w0 u0 m0 mf mo ma mb mt ml mp ds gF qF cF dF uF vF (fun _ => 0) hv (eF es i)) rfl gL_law_X5_find 1 (by decide +kernel) rfl ⟨rfl, rfl⟩ ⟨Nat.le_of_ble_eq_true rfl, Nat.le_of_ble_eq_true rfl⟩ (rest := []) (q0 := 12) rfl rfl [12, 17, 18, 23] rfl (Nat.le_of_ble_eq_true rfl) dL_law_340 ⟨by rw [hRc]; omega, by rw [hRs]; omega⟩ rfl (g_ki (fun r340 hr340 => ?_))
        have hx340 := find_x hv hx9 hf9 hr340
        subst hx340
        refine g_istore C dL_law_343 (by decide) (lv' := [(9, .int (nI x9)), (8, .int (nI i)), (7, .int (nI ds.length)), (5, .int (nI es.length)), (6, .ref oa), (1, .ref x0), (2, .ref y0), (4, .int (nI bu)), (0, .ref b)]) rfl ?_
        refine g_iload C dL_law_345 0 rfl ?_
        refine g_if_ltN C dL_law_347 (tgt := 367) (by decide) (by omega) (fun h347 => ?_) (fun h347 => ?_)
        · skip
          exact absurd h347 (Nat.not_lt_zero _)
        · skip
          refine g_aload_n C dL_law_350 6 rfl rfl ?_
          refine g_iload C dL_law_351 0 rfl ?_
          refine g_iconst C dL_law_353 (v := (nI 0)) (by decide) ?_
          refine g_callTV C hX (t_X5_entry l hfl D ty y0 z0 w0 u0 m0 mf mo ma mb mt ml mp ds gF qF cF dF uF vF (fun _ => 0) hv su hu (stI_b hJ) hJ.2.1 (nI x9) (nI 0)) rfl gL_law_X5_entry 2 (by decide +kernel) rfl ⟨rfl, rfl⟩ ⟨Nat.le_of_ble_eq_true rfl, Nat.le_of_ble_eq_true rfl⟩ (rest := []) (q0 := 12) rfl rfl hA [12, 17, 19, 20, 21, 22] [0, 1, 2, 3, 4, 5, 6, 7, 8, 9, 10, 11, 13, 14, 15, 16, 18, 23, 24] rfl rfl rfl (wr := [(x0, .inr (4, [.ref s0, .ref k0, .ref p0, .ref t0])), (s0, .inr (2, [.ref sp, .ref sa, .ref sc])), (sp, .inl (ty.1, 11, .inl (zN p2))), (sa, .inl (ty.2.2, 10, .inl (zB al))), (sc, .inl (ty.2.2, 16, .inl (zB cs))), (k0, .inr (1, [.int (nI es.length), .ref kf, .ref ko, .ref ka, .ref kb, .ref kt, .ref kl, .ref kp])), (kf, .inl (ty.2.1, 2000, .inr (.inl fF))), (ko, .inl (ty.1, 2000, .inl oF)), (ka, .inl (ty.1, 2000, .inl aF)), (kb, .inl (ty.1, 2000, .inl bF)), (kt, .inl (ty.1, 8, .inl tF)), (kl, .inl (ty.1, 4096, .inl sF)), (z0, .inr (2, [.ref zp, .ref za, .ref zc])), (zp, .inl (ty.1, 11, .inl (zN p2))), (za, .inl (ty.2.2, 10, .inl (zB bl))), (zc, .inl (ty.2.2, 16, .inl (zB ct))), (mf, .inl (ty.2.1, 2000, .inr (.inl gF))), (ml, .inl (ty.1, 4096, .inl vF)), (oa, .inl (ty.2.1, es.length, .inr (.inl fo)))]) rfl rfl rfl (Nat.le_of_ble_eq_true rfl) dL_law_354 ⟨by rw [hRc]; omega, by rw [hRs]; omega⟩ rfl ?_ (g_kui (fun r354 w hr354 => ?_))
          · intro E q9 hE
            exfalso
            obtain ⟨-, hq | hq⟩ := hE
            · rw [nI_toInt (by omega)] at hq
              omega
            · rw [nI_toInt (by decide)] at hq
              omega
          · skip
            obtain ⟨k354, q354, hk354, hok354, hq354, hoq354, hv354, rfl⟩ := hr354
            obtain rfl : x9 = k354 := nI_ij (by omega) (by omega) hok354
            obtain rfl : 0 = q354 := nI_ij (by decide) (by omega) hoq354
            replace hv354 : r354 = nI (eC ds x9) := hv354
            subst hv354
            refine g_ws (ws' := [(x0, .inr (4, [.ref s0, .ref k0, .ref p0, .ref t0])), (s0, .inr (2, [.ref sp, .ref sa, .ref sc])), (sp, .inl (ty.1, 11, .inl (zN p2))), (sa, .inl (ty.2.2, 10, .inl (zB al))), (sc, .inl (ty.2.2, 16, .inl (zB cs))), (k0, .inr (1, [.int (nI es.length), .ref kf, .ref ko, .ref ka, .ref kb, .ref kt, .ref kl, .ref kp])), (kf, .inl (ty.2.1, 2000, .inr (.inl fF))), (ko, .inl (ty.1, 2000, .inl oF)), (ka, .inl (ty.1, 2000, .inl aF)), (kb, .inl (ty.1, 2000, .inl bF)), (kt, .inl (ty.1, 8, .inl tF)), (kl, .inl (ty.1, 4096, .inl sF)), (y0, .inr (4, [.ref z0, .ref m0, .ref w0, .ref u0])), (z0, .inr (2, [.ref zp, .ref za, .ref zc])), (zp, .inl (ty.1, 11, .inl (zN p2))), (za, .inl (ty.2.2, 10, .inl (zB bl))), (zc, .inl (ty.2.2, 16, .inl (zB ct))), (m0, .inr (1, [.int (nI ds.length), .ref mf, .ref mo, .ref ma, .ref mb, .ref mt, .ref ml, .ref mp])), (mf, .inl (ty.2.1, 2000, .inr (.inl gF))), (mo, .inl (ty.1, 2000, .inl qF)), (ma, .inl (ty.1, 2000, .inl cF)), (mb, .inl (ty.1, 2000, .inl dF)), (mt, .inl (ty.1, 8, .inl uF)), (ml, .inl (ty.1, 4096, .inl vF)), (oa, .inl (ty.2.1, es.length, .inr (.inl fo)))]) [0, 1, 2, 3, 4, 5, 6, 7, 8, 9, 10, 11, 19, 12, 13, 14, 15, 20, 16, 21, 22, 23, 24, 17, 18] rfl rfl rfl ?_
            refine g_aload_n C dL_law_357 5 rfl rfl ?_
            refine g_iload C dL_law_358 1 rfl ?_
            refine g_iconst C dL_law_360 (v := (nI 0)) (by decide) ?_
            refine g_callTV C hX (t_X5_entry l hfl D ty x0 s0 p0 t0 k0 kf ko ka kb kt kl kp es fF oF aF bF tF sF (fun _ => 0) hw st ht (stI_b hI) hI.2.1 (nI i) (nI 0)) rfl gL_law_X5_entry 2 (by decide +kernel) rfl ⟨rfl, rfl⟩ ⟨Nat.le_of_ble_eq_true rfl, Nat.le_of_ble_eq_true rfl⟩ (rest := [.int (nI (eC ds x9))]) (q0 := 0) rfl rfl hA [0, 5, 7, 8, 9, 10] [1, 2, 3, 4, 6, 11, 12, 13, 14, 15, 16, 17, 18, 19, 20, 21, 22, 23, 24] rfl rfl rfl (wr := [(s0, .inr (2, [.ref sp, .ref sa, .ref sc])), (sp, .inl (ty.1, 11, .inl (zN p2))), (sa, .inl (ty.2.2, 10, .inl (zB al))), (sc, .inl (ty.2.2, 16, .inl (zB cs))), (kf, .inl (ty.2.1, 2000, .inr (.inl fF))), (kl, .inl (ty.1, 4096, .inl sF)), (y0, .inr (4, [.ref z0, .ref m0, .ref w0, .ref u0])), (z0, .inr (2, [.ref zp, .ref za, .ref zc])), (zp, .inl (ty.1, 11, .inl (zN p2))), (za, .inl (ty.2.2, 10, .inl (zB bl))), (zc, .inl (ty.2.2, 16, .inl (zB ct))), (m0, .inr (1, [.int (nI ds.length), .ref mf, .ref mo, .ref ma, .ref mb, .ref mt, .ref ml, .ref mp])), (mf, .inl (ty.2.1, 2000, .inr (.inl gF))), (mo, .inl (ty.1, 2000, .inl qF)), (ma, .inl (ty.1, 2000, .inl cF)), (mb, .inl (ty.1, 2000, .inl dF)), (mt, .inl (ty.1, 8, .inl uF)), (ml, .inl (ty.1, 4096, .inl vF)), (oa, .inl (ty.2.1, es.length, .inr (.inl fo)))]) rfl rfl rfl (Nat.le_of_ble_eq_true rfl) dL_law_361 ⟨by rw [hRc]; omega, by rw [hRs]; omega⟩ rfl ?_ (g_kui (fun r361 w hr361 => ?_))
            · intro E q9 hE
              exfalso
              obtain ⟨-, hq | hq⟩ := hE
              · rw [nI_toInt (by omega)] at hq
                omega
              · rw [nI_toInt (by decide)] at hq
                omega
            · skip
              obtain ⟨k361, q361, hk361, hok361, hq361, hoq361, hv361, rfl⟩ := hr361
              obtain rfl : i = k361 := nI_ij (by omega) (by omega) hok361
              obtain rfl : 0 = q361 := nI_ij (by decide) (by omega) hoq361
              replace hv361 : r361 = nI (eC es i) := hv361
              subst hv361
              have hc361 := hco i hk361
              refine g_ws (ws' := [(x0, .inr (4, [.ref s0, .ref k0, .ref p0, .ref t0])), (s0, .inr (2, [.ref sp, .ref sa, .ref sc])), (sp, .inl (ty.1, 11, .inl (zN p2))), (sa, .inl (ty.2.2, 10, .inl (zB al))), (sc, .inl (ty.2.2, 16, .inl (zB cs))), (k0, .inr (1, [.int (nI es.length), .ref kf, .ref ko, .ref ka, .ref kb, .ref kt, .ref kl, .ref kp])), (kf, .inl (ty.2.1, 2000, .inr (.inl fF))), (ko, .inl (ty.1, 2000, .inl oF)), (ka, .inl (ty.1, 2000, .inl aF)), (kb, .inl (ty.1, 2000, .inl bF)), (kt, .inl (ty.1, 8, .inl tF)), (kl, .inl (ty.1, 4096, .inl sF)), (y0, .inr (4, [.ref z0, .ref m0, .ref w0, .ref u0])), (z0, .inr (2, [.ref zp, .ref za, .ref zc])), (zp, .inl (ty.1, 11, .inl (zN p2))), (za, .inl (ty.2.2, 10, .inl (zB bl))), (zc, .inl (ty.2.2, 16, .inl (zB ct))), (m0, .inr (1, [.int (nI ds.length), .ref mf, .ref mo, .ref ma, .ref mb, .ref mt, .ref ml, .ref mp])), (mf, .inl (ty.2.1, 2000, .inr (.inl gF))), (mo, .inl (ty.1, 2000, .inl qF)), (ma, .inl (ty.1, 2000, .inl cF)), (mb, .inl (ty.1, 2000, .inl dF)), (mt, .inl (ty.1, 8, .inl uF)), (ml, .inl (ty.1, 4096, .inl vF)), (oa, .inl (ty.2.1, es.length, .inr (.inl fo)))]) [19, 0, 1, 2, 3, 20, 4, 21, 22, 23, 24, 5, 6, 7, 8, 9, 10, 11, 12, 13, 14, 15, 16, 17, 18] rfl rfl rfl ?_
              refine g_icmp_leN C dL_law_364 (tgt := 369) (by decide) (by omega) (by omega) (fun h364 => ?_) (fun h364 => ?_)
              · skip
                refine g_iinc C dL_law_369 1 rfl (v := (nI (i + 1))) (nI_1 i) (by decide) (lv' := [(8, .int (nI (i + 1))), (9, .int (nI x9)), (7, .int (nI ds.length)), (5, .int (nI es.length)), (6, .ref oa), (1, .ref x0), (2, .ref y0), (4, .int (nI bu)), (0, .ref b)]) rfl ?_
                refine g_goto C dL_law_372 (tgt := 319) (by decide) ?_
                refine g_lv (lv' := [(8, .int (nI (i + 1))), (7, .int (nI ds.length)), (5, .int (nI es.length)), (6, .ref oa), (1, .ref x0), (2, .ref y0), (4, .int (nI bu)), (0, .ref b)]) [0, 2, 3, 4, 5, 6, 7, 8] rfl ?_
                refine g_wid (k0 := (10090 + 2 * (i + 1))) (n0 := (87310 + 12 * (i + 1))) (by omega) (by omega) ?_
                exact ih319 (i + 1) (by omega) (by omega)
              · skip
                exact absurd h364 (by omega)


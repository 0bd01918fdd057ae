set_option maxHeartbeats 4000000 in
set_option maxRecDepth 100000 in
theorem ls_195 {p : Program} {e : Env} {s : State} {m : MethodId} {args : Array Value} {below : List Frame} {meth : Method} {c : Code} {Q : State → Prop} {A : Nat → Prop} (l : Launch) (hfl : l.stackTraces = false) (D : va_G) (ty : g_T3) (C : g_Cx (g_IU A D s) p s m args c code 12 A D ty RL wsL_law) (hA : ∀ q, s.heap.size ≤ q → A q) (hX : g_Xok g_XT ∧ g_XT A s) {b L : Nat} {xs : Nat → Int32} (hsx : va_X b L xs s s.heap) (hbl : b < s.heap.size) (hbA : ¬ A b) (hL : L ≤ 260) (hEnd : ∀ (cells slots : Nat) (lv : g_Lv) (ws : va_W), cells ≤ 600086 → slots ≤ 7301442 → gG (g_IU A D s) p l e room_1 s m args below meth c Q 12 cells slots 604 lv [.int (nI 1)] ws) (x0 s0 sp sa sc k0 kf ko ka kb kt kl kp p0 t0 y0 z0 zp za zc m0 mf mo ma mb mt ml mp w0 u0 oa : Nat) (p2 : Nat → Nat) (al : Nat → Bool) (bl : Nat → Bool) (cs : Nat → Bool) (ct : Nat → Bool) (bu : Nat) (st : Nat → Nat) (es : List Ent) (fF : Nat → Int64) (oF : Nat → Int32) (aF : Nat → Int32) (bF : Nat → Int32) (tF : Nat → Int32) (sF : Nat → Int32) (ds : List Ent) (gF : Nat → Int64) (qF : Nat → Int32) (cF : Nat → Int32) (dF : Nat → Int32) (uF : Nat → Int32) (vF : Nat → Int32) (hp : (∀ k, k < 10 → 1 ≤ p2 k ∧ p2 k ≤ 5) ∧ p2 10 ≤ 5) (hal : ∀ k, al k = true → bl k = true) (hcs : ∀ v, cs v = true → ct v = true) (hbu : bu ≤ 2) (hw : rowOk es fF oF aF bF sF) (hv : rowOk ds gF qF cF dF vF) (ht : ∀ j, j < 8 → tF j = nI (st j)) (hI : stI es st) (hes : es = (sq p2 al cs bu 8).2) (hco : ∀ i, i < es.length → eC es i ≤ bu) : ∀ (n9 : Nat) (i : Nat) (fo : Nat → Int64), es.length - i < n9 → (i ≤ es.length) → (∀ j, j < i → fo j = eF es j) → gG (g_IU A D s) p l e room_1 s m args below meth c Q 12 (80 + 5 * i) (27300 + 30 * i) 195 [(7, .int (nI i)), (5, .int (nI es.length)), (6, .ref oa), (1, .ref x0), (2, .ref y0), (4, .int (nI bu)), (0, .ref b)] [] [(x0, .inr (4, [.ref s0, .ref k0, .ref p0, .ref t0])), (s0, .inr (2, [.ref sp, .ref sa, .ref sc])), (sp, .inl (ty.1, 11, .inl (zN p2))), (sa, .inl (ty.2.2, 10, .inl (zB al))), (sc, .inl (ty.2.2, 16, .inl (zB cs))), (k0, .inr (1, [.int (nI es.length), .ref kf, .ref ko, .ref ka, .ref kb, .ref kt, .ref kl, .ref kp])), (kf, .inl (ty.2.1, 2000, .inr (.inl fF))), (ko, .inl (ty.1, 2000, .inl oF)), (ka, .inl (ty.1, 2000, .inl aF)), (kb, .inl (ty.1, 2000, .inl bF)), (kt, .inl (ty.1, 8, .inl tF)), (kl, .inl (ty.1, 4096, .inl sF)), (y0, .inr (4, [.ref z0, .ref m0, .ref w0, .ref u0])), (z0, .inr (2, [.ref zp, .ref za, .ref zc])), (zp, .inl (ty.1, 11, .inl (zN p2))), (za, .inl (ty.2.2, 10, .inl (zB bl))), (zc, .inl (ty.2.2, 16, .inl (zB ct))), (m0, .inr (1, [.int (nI ds.length), .ref mf, .ref mo, .ref ma, .ref mb, .ref mt, .ref ml, .ref mp])), (mf, .inl (ty.2.1, 2000, .inr (.inl gF))), (mo, .inl (ty.1, 2000, .inl qF)), (ma, .inl (ty.1, 2000, .inl cF)), (mb, .inl (ty.1, 2000, .inl dF)), (mt, .inl (ty.1, 8, .inl uF)), (ml, .inl (ty.1, 4096, .inl vF)), (oa, .inl (ty.2.1, es.length, .inr (.inl fo)))] := by
  intro n9
  induction n9 with
  | zero => intro i fo hn; exact absurd hn (Nat.not_lt_zero _)
  | succ n9 ih195 =>
    intro i fo hn9 hi hfo
    have hRc : room_1.cells = 600086 := rfl
    have hRs : room_1.slots = 7301442 := rfl
    have hlen : es.length ≤ 2000 := hI.2.2.2.2
    refine g_iload C dL_law_195 0 rfl ?_
    refine g_iload C dL_law_197 1 rfl ?_
    refine g_icmp_geN C dL_law_199 (tgt := 308) (by decide) (by omega) (by omega) (fun h199 => ?_) (fun h199 => ?_)
    · skip
      refine g_lv (lv' := [(5, .int (nI es.length)), (6, .ref oa), (1, .ref x0), (2, .ref y0), (4, .int (nI bu)), (0, .ref b)]) [1, 2, 3, 4, 5, 6] rfl ?_
      refine g_wid (k0 := (10080)) (n0 := (87300)) (by omega) (by omega) ?_
      exact ls_308 l hfl D ty C hA hX hsx hbl hbA hL hEnd x0 s0 sp sa sc k0 kf ko ka kb kt kl kp p0 t0 y0 z0 zp za zc m0 mf mo ma mb mt ml mp w0 u0 oa p2 al bl cs ct bu st es fF oF aF bF tF sF ds gF qF cF dF uF vF fo hp hal hcs hbu hw hv ht hI hes hco (fun j hj => hfo j (by omega))
    · skip
      refine g_aload C dL_law_202 2 rfl ?_
      refine g_iload C dL_law_204 0 rfl ?_
      refine g_aload_n C dL_law_206 3 rfl rfl ?_
      refine g_iload C dL_law_207 0 rfl ?_
      refine g_callTV C hX (t_X5_function l hfl D ty x0 s0 p0 t0 k0 kf ko ka kb kt kl kp es fF oF aF bF tF sF (fun _ => 0) hw (nI i)) rfl gL_law_X5_function 1 (by decide +kernel) rfl ⟨rfl, rfl⟩ ⟨Nat.le_of_ble_eq_true rfl, Nat.le_of_ble_eq_true rfl⟩ (rest := [.int (nI i), .ref oa]) (q0 := 0) rfl rfl hA [0, 5, 6] [1, 2, 3, 4, 7, 8, 9, 10, 11, 12, 13, 14, 15, 16, 17, 18, 19, 20, 21, 22, 23, 24] rfl rfl rfl (wr := [(s0, .inr (2, [.ref sp, .ref sa, .ref sc])), (sp, .inl (ty.1, 11, .inl (zN p2))), (sa, .inl (ty.2.2, 10, .inl (zB al))), (sc, .inl (ty.2.2, 16, .inl (zB cs))), (ko, .inl (ty.1, 2000, .inl oF)), (ka, .inl (ty.1, 2000, .inl aF)), (kb, .inl (ty.1, 2000, .inl bF)), (kt, .inl (ty.1, 8, .inl tF)), (kl, .inl (ty.1, 4096, .inl sF)), (y0, .inr (4, [.ref z0, .ref m0, .ref w0, .ref u0])), (z0, .inr (2, [.ref zp, .ref za, .ref zc])), (zp, .inl (ty.1, 11, .inl (zN p2))), (za, .inl (ty.2.2, 10, .inl (zB bl))), (zc, .inl (ty.2.2, 16, .inl (zB ct))), (m0, .inr (1, [.int (nI ds.length), .ref mf, .ref mo, .ref ma, .ref mb, .ref mt, .ref ml, .ref mp])), (mf, .inl (ty.2.1, 2000, .inr (.inl gF))), (mo, .inl (ty.1, 2000, .inl qF)), (ma, .inl (ty.1, 2000, .inl cF)), (mb, .inl (ty.1, 2000, .inl dF)), (mt, .inl (ty.1, 8, .inl uF)), (ml, .inl (ty.1, 4096, .inl vF)), (oa, .inl (ty.2.1, es.length, .inr (.inl fo)))]) rfl rfl rfl (Nat.le_of_ble_eq_true rfl) dL_law_209 ⟨by rw [hRc]; omega, by rw [hRs]; omega⟩ rfl ?_ (g_kul (fun r209 w hr209 => ?_))
      · intro E q9 hE
        exfalso
        obtain ⟨-, hq⟩ := hE
        rw [nI_toInt (by omega)] at hq
        omega
      · skip
        obtain ⟨k209, hk209, hok209, rfl, rfl⟩ := hr209
        obtain rfl : i = k209 := nI_ij (by omega) (by omega) hok209
        refine g_ws (ws' := [(x0, .inr (4, [.ref s0, .ref k0, .ref p0, .ref t0])), (s0, .inr (2, [.ref sp, .ref sa, .ref sc])), (sp, .inl (ty.1, 11, .inl (zN p2))), (sa, .inl (ty.2.2, 10, .inl (zB al))), (sc, .inl (ty.2.2, 16, .inl (zB cs))), (k0, .inr (1, [.int (nI es.length), .ref kf, .ref ko, .ref ka, .ref kb, .ref kt, .ref kl, .ref kp])), (kf, .inl (ty.2.1, 2000, .inr (.inl fF))), (ko, .inl (ty.1, 2000, .inl oF)), (ka, .inl (ty.1, 2000, .inl aF)), (kb, .inl (ty.1, 2000, .inl bF)), (kt, .inl (ty.1, 8, .inl tF)), (kl, .inl (ty.1, 4096, .inl sF)), (y0, .inr (4, [.ref z0, .ref m0, .ref w0, .ref u0])), (z0, .inr (2, [.ref zp, .ref za, .ref zc])), (zp, .inl (ty.1, 11, .inl (zN p2))), (za, .inl (ty.2.2, 10, .inl (zB bl))), (zc, .inl (ty.2.2, 16, .inl (zB ct))), (m0, .inr (1, [.int (nI ds.length), .ref mf, .ref mo, .ref ma, .ref mb, .ref mt, .ref ml, .ref mp])), (mf, .inl (ty.2.1, 2000, .inr (.inl gF))), (mo, .inl (ty.1, 2000, .inl qF)), (ma, .inl (ty.1, 2000, .inl cF)), (mb, .inl (ty.1, 2000, .inl dF)), (mt, .inl (ty.1, 8, .inl uF)), (ml, .inl (ty.1, 4096, .inl vF)), (oa, .inl (ty.2.1, es.length, .inr (.inl fo)))]) [22, 0, 1, 2, 3, 23, 24, 4, 5, 6, 7, 8, 9, 10, 11, 12, 13, 14, 15, 16, 17, 18, 19, 20, 21] rfl rfl rfl ?_
        refine g_last C 24 rfl (by omega) (by omega) (f' := vp_updL fo i (eF es i)) rfl (ws' := [(x0, .inr (4, [.ref s0, .ref k0, .ref p0, .ref t0])), (s0, .inr (2, [.ref sp, .ref sa, .ref sc])), (sp, .inl (ty.1, 11, .inl (zN p2))), (sa, .inl (ty.2.2, 10, .inl (zB al))), (sc, .inl (ty.2.2, 16, .inl (zB cs))), (k0, .inr (1, [.int (nI es.length), .ref kf, .ref ko, .ref ka, .ref kb, .ref kt, .ref kl, .ref kp])), (kf, .inl (ty.2.1, 2000, .inr (.inl fF))), (ko, .inl (ty.1, 2000, .inl oF)), (ka, .inl (ty.1, 2000, .inl aF)), (kb, .inl (ty.1, 2000, .inl bF)), (kt, .inl (ty.1, 8, .inl tF)), (kl, .inl (ty.1, 4096, .inl sF)), (y0, .inr (4, [.ref z0, .ref m0, .ref w0, .ref u0])), (z0, .inr (2, [.ref zp, .ref za, .ref zc])), (zp, .inl (ty.1, 11, .inl (zN p2))), (za, .inl (ty.2.2, 10, .inl (zB bl))), (zc, .inl (ty.2.2, 16, .inl (zB ct))), (m0, .inr (1, [.int (nI ds.length), .ref mf, .ref mo, .ref ma, .ref mb, .ref mt, .ref ml, .ref mp])), (mf, .inl (ty.2.1, 2000, .inr (.inl gF))), (mo, .inl (ty.1, 2000, .inl qF)), (ma, .inl (ty.1, 2000, .inl cF)), (mb, .inl (ty.1, 2000, .inl dF)), (mt, .inl (ty.1, 8, .inl uF)), (ml, .inl (ty.1, 4096, .inl vF)), (oa, .inl (ty.2.1, es.length, .inr (.inl (vp_updL fo i (eF es i)))))]) rfl dL_law_212 ?_
        refine g_aload_n C dL_law_213 3 rfl rfl ?_
        refine g_aload C dL_law_214 2 rfl ?_
        refine g_iload C dL_law_216 0 rfl ?_
        refine g_lald C (v := (eF es i)) 24 rfl (by omega) (by omega) (pk_uLs) dL_law_218 ?_
        refine g_callPV C ⟨g_X0_ok, trivial⟩ (t_X5_find l D ty x0 s0 p0 t0 k0 kf ko ka kb kt kl kp es fF oF aF bF tF sF (fun _ => 0) hw (eF es i)) rfl gL_law_X5_find 1 (by decide +kernel) rfl ⟨rfl, rfl⟩ ⟨Nat.le_of_ble_eq_true rfl, Nat.le_of_ble_eq_true rfl⟩ (rest := []) (q0 := 0) rfl rfl [0, 5, 6, 11] rfl (Nat.le_of_ble_eq_true rfl) dL_law_219 ⟨by rw [hRc]; omega, by rw [hRs]; omega⟩ rfl (g_ki (fun r219 hr219 => ?_))
        have hx219 := find_x hw h199 rfl hr219
        subst hx219
        refine g_iload C dL_law_222 0 rfl ?_
        refine g_icmp_neN C dL_law_224 (tgt := 300) (by decide) (by omega) (by omega) (fun h224 => ?_) (fun h224 => ?_)
        · skip
          exact absurd rfl h224
        · skip
          refine g_iload C dL_law_227 0 rfl ?_
          have J251 : gG (g_IU A D s) p l e room_1 s m args below meth c Q 12 (((80 + 5 * i) + 1) + 2) (((27300 + 30 * i) + 6) + 12) 251 [(7, .int (nI i)), (5, .int (nI es.length)), (6, .ref oa), (1, .ref x0), (2, .ref y0), (4, .int (nI bu)), (0, .ref b)] [] [(x0, .inr (4, [.ref s0, .ref k0, .ref p0, .ref t0])), (s0, .inr (2, [.ref sp, .ref sa, .ref sc])), (sp, .inl (ty.1, 11, .inl (zN p2))), (sa, .inl (ty.2.2, 10, .inl (zB al))), (sc, .inl (ty.2.2, 16, .inl (zB cs))), (k0, .inr (1, [.int (nI es.length), .ref kf, .ref ko, .ref ka, .ref kb, .ref kt, .ref kl, .ref kp])), (kf, .inl (ty.2.1, 2000, .inr (.inl fF))), (ko, .inl (ty.1, 2000, .inl oF)), (ka, .inl (ty.1, 2000, .inl aF)), (kb, .inl (ty.1, 2000, .inl bF)), (kt, .inl (ty.1, 8, .inl tF)), (kl, .inl (ty.1, 4096, .inl sF)), (y0, .inr (4, [.ref z0, .ref m0, .ref w0, .ref u0])), (z0, .inr (2, [.ref zp, .ref za, .ref zc])), (zp, .inl (ty.1, 11, .inl (zN p2))), (za, .inl (ty.2.2, 10, .inl (zB bl))), (zc, .inl (ty.2.2, 16, .inl (zB ct))), (m0, .inr (1, [.int (nI ds.length), .ref mf, .ref mo, .ref ma, .ref mb, .ref mt, .ref ml, .ref mp])), (mf, .inl (ty.2.1, 2000, .inr (.inl gF))), (mo, .inl (ty.1, 2000, .inl qF)), (ma, .inl (ty.1, 2000, .inl cF)), (mb, .inl (ty.1, 2000, .inl dF)), (mt, .inl (ty.1, 8, .inl uF)), (ml, .inl (ty.1, 4096, .inl vF)), (oa, .inl (ty.2.1, es.length, .inr (.inl (vp_updL fo i (eF es i)))))] := by
            refine g_aload_n C dL_law_251 3 rfl rfl ?_
            refine g_iload C dL_law_252 0 rfl ?_
            refine g_iconst C dL_law_254 (v := (nI 0)) (by decide) ?_
            refine g_callTV C hX (t_X5_entry l hfl D ty x0 s0 p0 t0 k0 kf ko ka kb kt kl kp es fF oF aF bF tF sF (fun _ => 0) hw st ht (stI_b hI) hI.2.1 (nI i) (nI 0)) rfl gL_law_X5_entry 2 (by decide +kernel) rfl ⟨rfl, rfl⟩ ⟨Nat.le_of_ble_eq_true rfl, Nat.le_of_ble_eq_true rfl⟩ (rest := []) (q0 := 0) rfl rfl hA [0, 5, 7, 8, 9, 10] [1, 2, 3, 4, 6, 11, 12, 13, 14, 15, 16, 17, 18, 19, 20, 21, 22, 23, 24] rfl rfl rfl (wr := [(s0, .inr (2, [.ref sp, .ref sa, .ref sc])), (sp, .inl (ty.1, 11, .inl (zN p2))), (sa, .inl (ty.2.2, 10, .inl (zB al))), (sc, .inl (ty.2.2, 16, .inl (zB cs))), (kf, .inl (ty.2.1, 2000, .inr (.inl fF))), (kl, .inl (ty.1, 4096, .inl sF)), (y0, .inr (4, [.ref z0, .ref m0, .ref w0, .ref u0])), (z0, .inr (2, [.ref zp, .ref za, .ref zc])), (zp, .inl (ty.1, 11, .inl (zN p2))), (za, .inl (ty.2.2, 10, .inl (zB bl))), (zc, .inl (ty.2.2, 16, .inl (zB ct))), (m0, .inr (1, [.int (nI ds.length), .ref mf, .ref mo, .ref ma, .ref mb, .ref mt, .ref ml, .ref mp])), (mf, .inl (ty.2.1, 2000, .inr (.inl gF))), (mo, .inl (ty.1, 2000, .inl qF)), (ma, .inl (ty.1, 2000, .inl cF)), (mb, .inl (ty.1, 2000, .inl dF)), (mt, .inl (ty.1, 8, .inl uF)), (ml, .inl (ty.1, 4096, .inl vF)), (oa, .inl (ty.2.1, es.length, .inr (.inl (vp_updL fo i (eF es i)))))]) rfl rfl rfl (Nat.le_of_ble_eq_true rfl) dL_law_255 ⟨by rw [hRc]; omega, by rw [hRs]; omega⟩ rfl ?_ (g_kui (fun r255 w hr255 => ?_))
            · intro E q9 hE
              exfalso
              obtain ⟨-, hq | hq⟩ := hE
              · rw [nI_toInt (by omega)] at hq
                omega
              · rw [nI_toInt (by decide)] at hq
                omega
            · skip
              obtain ⟨k255, q255, hk255, hok255, hq255, hoq255, hv255, rfl⟩ := hr255
              obtain rfl : i = k255 := nI_ij (by omega) (by omega) hok255
              obtain rfl : 0 = q255 := nI_ij (by decide) (by omega) hoq255
              replace hv255 : r255 = nI (eC es i) := hv255
              subst hv255
              have hc255 := hco i hk255
              refine g_ws (ws' := [(x0, .inr (4, [.ref s0, .ref k0, .ref p0, .ref t0])), (s0, .inr (2, [.ref sp, .ref sa, .ref sc])), (sp, .inl (ty.1, 11, .inl (zN p2))), (sa, .inl (ty.2.2, 10, .inl (zB al))), (sc, .inl (ty.2.2, 16, .inl (zB cs))), (k0, .inr (1, [.int (nI es.length), .ref kf, .ref ko, .ref ka, .ref kb, .ref kt, .ref kl, .ref kp])), (kf, .inl (ty.2.1, 2000, .inr (.inl fF))), (ko, .inl (ty.1, 2000, .inl oF)), (ka, .inl (ty.1, 2000, .inl aF)), (kb, .inl (ty.1, 2000, .inl bF)), (kt, .inl (ty.1, 8, .inl tF)), (kl, .inl (ty.1, 4096, .inl sF)), (y0, .inr (4, [.ref z0, .ref m0, .ref w0, .ref u0])), (z0, .inr (2, [.ref zp, .ref za, .ref zc])), (zp, .inl (ty.1, 11, .inl (zN p2))), (za, .inl (ty.2.2, 10, .inl (zB bl))), (zc, .inl (ty.2.2, 16, .inl (zB ct))), (m0, .inr (1, [.int (nI ds.length), .ref mf, .ref mo, .ref ma, .ref mb, .ref mt, .ref ml, .ref mp])), (mf, .inl (ty.2.1, 2000, .inr (.inl gF))), (mo, .inl (ty.1, 2000, .inl qF)), (ma, .inl (ty.1, 2000, .inl cF)), (mb, .inl (ty.1, 2000, .inl dF)), (mt, .inl (ty.1, 8, .inl uF)), (ml, .inl (ty.1, 4096, .inl vF)), (oa, .inl (ty.2.1, es.length, .inr (.inl (vp_updL fo i (eF es i)))))]) [19, 0, 1, 2, 3, 20, 4, 21, 22, 23, 24, 5, 6, 7, 8, 9, 10, 11, 12, 13, 14, 15, 16, 17, 18] rfl rfl rfl ?_
              refine g_iload C dL_law_258 5 rfl ?_
              refine g_icmp_gtN C dL_law_260 (tgt := 300) (by decide) (by omega) (by omega) (fun h260 => ?_) (fun h260 => ?_)
              · skip
                exact absurd h260 (by omega)
              · skip
                refine g_iload C dL_law_263 0 rfl ?_
                refine g_bipush C dL_law_265 (v := (nI 20)) (by decide) ?_
                refine g_icmp_geN C dL_law_267 (tgt := 302) (by decide) (by omega) (by omega) (fun h267 => ?_) (fun h267 => ?_)
                · skip
                  refine g_iinc C dL_law_302 0 rfl (v := (nI (i + 1))) (nI_1 i) (by decide) (lv' := [(7, .int (nI (i + 1))), (5, .int (nI es.length)), (6, .ref oa), (1, .ref x0), (2, .ref y0), (4, .int (nI bu)), (0, .ref b)]) rfl ?_
                  refine g_goto C dL_law_305 (tgt := 195) (by decide) ?_
                  refine g_wid (k0 := (80 + 5 * (i + 1))) (n0 := (27300 + 30 * (i + 1))) (by omega) (by omega) ?_
                  exact ih195 (i + 1) (vp_updL fo i (eF es i)) (by omega) (by omega) (fo_up hfo)
                · skip
                  refine g_aload_n C dL_law_270 3 rfl rfl ?_
                  refine g_aload C dL_law_271 2 rfl ?_
                  refine g_iload C dL_law_273 0 rfl ?_
                  refine g_lald C (v := (eF es i)) 24 rfl (by omega) (by omega) (pk_uLs) dL_law_275 ?_
                  refine g_ldc C (v := (nI 65535)) 4 rfl dL_law_276 ?_
                  refine g_callTV C hX (t_X5_fit l hfl D ty x0 s0 p0 t0 k0 kf ko ka kb kt kl kp es fF oF aF bF tF sF (fun _ => 0) hw (eF es i) (nI 65535)) rfl gL_law_X5_fit 2 (by decide +kernel) rfl ⟨rfl, rfl⟩ ⟨Nat.le_of_ble_eq_true rfl, Nat.le_of_ble_eq_true rfl⟩ (rest := []) (q0 := 0) rfl rfl hA [0, 5, 6] [1, 2, 3, 4, 7, 8, 9, 10, 11, 12, 13, 14, 15, 16, 17, 18, 19, 20, 21, 22, 23, 24] rfl rfl rfl (wr := [(s0, .inr (2, [.ref sp, .ref sa, .ref sc])), (sp, .inl (ty.1, 11, .inl (zN p2))), (sa, .inl (ty.2.2, 10, .inl (zB al))), (sc, .inl (ty.2.2, 16, .inl (zB cs))), (ko, .inl (ty.1, 2000, .inl oF)), (ka, .inl (ty.1, 2000, .inl aF)), (kb, .inl (ty.1, 2000, .inl bF)), (kt, .inl (ty.1, 8, .inl tF)), (kl, .inl (ty.1, 4096, .inl sF)), (y0, .inr (4, [.ref z0, .ref m0, .ref w0, .ref u0])), (z0, .inr (2, [.ref zp, .ref za, .ref zc])), (zp, .inl (ty.1, 11, .inl (zN p2))), (za, .inl (ty.2.2, 10, .inl (zB bl))), (zc, .inl (ty.2.2, 16, .inl (zB ct))), (m0, .inr (1, [.int (nI ds.length), .ref mf, .ref mo, .ref ma, .ref mb, .ref mt, .ref ml, .ref mp])), (mf, .inl (ty.2.1, 2000, .inr (.inl gF))), (mo, .inl (ty.1, 2000, .inl qF)), (ma, .inl (ty.1, 2000, .inl cF)), (mb, .inl (ty.1, 2000, .inl dF)), (mt, .inl (ty.1, 8, .inl uF)), (ml, .inl (ty.1, 4096, .inl vF)), (oa, .inl (ty.2.1, es.length, .inr (.inl (vp_updL fo i (eF es i)))))]) rfl rfl rfl (Nat.le_of_ble_eq_true rfl) dL_law_278 ⟨by rw [hRc]; omega, by rw [hRs]; omega⟩ rfl ?_ (g_kui (fun r278 w hr278 => ?_))
                  · intro E q9 hE
                    exfalso
                    obtain ⟨-, hq⟩ := hE
                    rw [nI_toInt (by decide)] at hq
                    omega
                  · skip
                    obtain ⟨k278, hk278, hok278, hv278, rfl⟩ := hr278
                    obtain rfl : 65535 = k278 := nI_ij (by decide) (by omega) hok278
                    have hx278 := fit_x hw h199 hv278
                    subst hx278
                    refine g_ws (ws' := [(x0, .inr (4, [.ref s0, .ref k0, .ref p0, .ref t0])), (s0, .inr (2, [.ref sp, .ref sa, .ref sc])), (sp, .inl (ty.1, 11, .inl (zN p2))), (sa, .inl (ty.2.2, 10, .inl (zB al))), (sc, .inl (ty.2.2, 16, .inl (zB cs))), (k0, .inr (1, [.int (nI es.length), .ref kf, .ref ko, .ref ka, .ref kb, .ref kt, .ref kl, .ref kp])), (kf, .inl (ty.2.1, 2000, .inr (.inl fF))), (ko, .inl (ty.1, 2000, .inl oF)), (ka, .inl (ty.1, 2000, .inl aF)), (kb, .inl (ty.1, 2000, .inl bF)), (kt, .inl (ty.1, 8, .inl tF)), (kl, .inl (ty.1, 4096, .inl sF)), (y0, .inr (4, [.ref z0, .ref m0, .ref w0, .ref u0])), (z0, .inr (2, [.ref zp, .ref za, .ref zc])), (zp, .inl (ty.1, 11, .inl (zN p2))), (za, .inl (ty.2.2, 10, .inl (zB bl))), (zc, .inl (ty.2.2, 16, .inl (zB ct))), (m0, .inr (1, [.int (nI ds.length), .ref mf, .ref mo, .ref ma, .ref mb, .ref mt, .ref ml, .ref mp])), (mf, .inl (ty.2.1, 2000, .inr (.inl gF))), (mo, .inl (ty.1, 2000, .inl qF)), (ma, .inl (ty.1, 2000, .inl cF)), (mb, .inl (ty.1, 2000, .inl dF)), (mt, .inl (ty.1, 8, .inl uF)), (ml, .inl (ty.1, 4096, .inl vF)), (oa, .inl (ty.2.1, es.length, .inr (.inl (vp_updL fo i (eF es i)))))]) [22, 0, 1, 2, 3, 23, 24, 4, 5, 6, 7, 8, 9, 10, 11, 12, 13, 14, 15, 16, 17, 18, 19, 20, 21] rfl rfl rfl ?_
                    refine g_iload C dL_law_281 0 rfl ?_
                    refine g_icmp_neN C dL_law_283 (tgt := 300) (by decide) (by omega) (by omega) (fun h283 => ?_) (fun h283 => ?_)
                    · skip
                      exact absurd rfl h283
                    · skip
                      refine g_aload_n C dL_law_286 3 rfl rfl ?_
                      refine g_aload C dL_law_287 2 rfl ?_
                      refine g_iload C dL_law_289 0 rfl ?_
                      refine g_lald C (v := (eF es i)) 24 rfl (by omega) (by omega) (pk_uLs) dL_law_291 ?_
                      refine g_callPV C ⟨g_X0_ok, trivial⟩ (t_X5_near l D ty x0 s0 p0 t0 k0 kf ko ka kb kt kl kp es fF oF aF bF tF sF (fun _ => 0) hw (eF es i)) rfl gL_law_X5_near 1 (by decide +kernel) rfl ⟨rfl, rfl⟩ ⟨Nat.le_of_ble_eq_true rfl, Nat.le_of_ble_eq_true rfl⟩ (rest := []) (q0 := 0) rfl rfl [0, 5, 6] rfl (Nat.le_of_ble_eq_true rfl) dL_law_292 ⟨by rw [hRc]; omega, by rw [hRs]; omega⟩ rfl (g_ki (fun r292 hr292 => ?_))
                      have hx292 := near_x hw h199 hr292
                      subst hx292
                      refine g_iload C dL_law_295 0 rfl ?_
                      refine g_icmp_eqN C dL_law_297 (tgt := 302) (by decide) (by omega) (by omega) (fun h297 => ?_) (fun h297 => ?_)
                      · skip
                        refine g_iinc C dL_law_302 0 rfl (v := (nI (i + 1))) (nI_1 i) (by decide) (lv' := [(7, .int (nI (i + 1))), (5, .int (nI es.length)), (6, .ref oa), (1, .ref x0), (2, .ref y0), (4, .int (nI bu)), (0, .ref b)]) rfl ?_
                        refine g_goto C dL_law_305 (tgt := 195) (by decide) ?_
                        refine g_wid (k0 := (80 + 5 * (i + 1))) (n0 := (27300 + 30 * (i + 1))) (by omega) (by omega) ?_
                        exact ih195 (i + 1) (vp_updL fo i (eF es i)) (by omega) (by omega) (fo_up hfo)
                      · skip
                        exact absurd rfl h297
          refine g_if_leN C dL_law_229 (tgt := 251) (by decide) (by omega) (fun h229 => ?_) (fun h229 => ?_)
          · skip
            refine g_wid (k0 := (((80 + 5 * i) + 1) + 2)) (n0 := (((27300 + 30 * i) + 6) + 12)) (by omega) (by omega) ?_
            exact J251 
          · skip
            refine g_aload_n C dL_law_232 3 rfl rfl ?_
            refine g_iload C dL_law_233 0 rfl ?_
            refine g_iconst C dL_law_235 (v := (nI 0)) (by decide) ?_
            refine g_callTV C hX (t_X5_entry l hfl D ty x0 s0 p0 t0 k0 kf ko ka kb kt kl kp es fF oF aF bF tF sF (fun _ => 0) hw st ht (stI_b hI) hI.2.1 (nI i) (nI 0)) rfl gL_law_X5_entry 2 (by decide +kernel) rfl ⟨rfl, rfl⟩ ⟨Nat.le_of_ble_eq_true rfl, Nat.le_of_ble_eq_true rfl⟩ (rest := []) (q0 := 0) rfl rfl hA [0, 5, 7, 8, 9, 10] [1, 2, 3, 4, 6, 11, 12, 13, 14, 15, 16, 17, 18, 19, 20, 21, 22, 23, 24] rfl rfl rfl (wr := [(s0, .inr (2, [.ref sp, .ref sa, .ref sc])), (sp, .inl (ty.1, 11, .inl (zN p2))), (sa, .inl (ty.2.2, 10, .inl (zB al))), (sc, .inl (ty.2.2, 16, .inl (zB cs))), (kf, .inl (ty.2.1, 2000, .inr (.inl fF))), (kl, .inl (ty.1, 4096, .inl sF)), (y0, .inr (4, [.ref z0, .ref m0, .ref w0, .ref u0])), (z0, .inr (2, [.ref zp, .ref za, .ref zc])), (zp, .inl (ty.1, 11, .inl (zN p2))), (za, .inl (ty.2.2, 10, .inl (zB bl))), (zc, .inl (ty.2.2, 16, .inl (zB ct))), (m0, .inr (1, [.int (nI ds.length), .ref mf, .ref mo, .ref ma, .ref mb, .ref mt, .ref ml, .ref mp])), (mf, .inl (ty.2.1, 2000, .inr (.inl gF))), (mo, .inl (ty.1, 2000, .inl qF)), (ma, .inl (ty.1, 2000, .inl cF)), (mb, .inl (ty.1, 2000, .inl dF)), (mt, .inl (ty.1, 8, .inl uF)), (ml, .inl (ty.1, 4096, .inl vF)), (oa, .inl (ty.2.1, es.length, .inr (.inl (vp_updL fo i (eF es i)))))]) rfl rfl rfl (Nat.le_of_ble_eq_true rfl) dL_law_236 ⟨by rw [hRc]; omega, by rw [hRs]; omega⟩ rfl ?_ (g_kui (fun r236 w hr236 => ?_))
            · intro E q9 hE
              exfalso
              obtain ⟨-, hq | hq⟩ := hE
              · rw [nI_toInt (by omega)] at hq
                omega
              · rw [nI_toInt (by decide)] at hq
                omega
            · skip
              obtain ⟨k236, q236, hk236, hok236, hq236, hoq236, hv236, rfl⟩ := hr236
              obtain rfl : i = k236 := nI_ij (by omega) (by omega) hok236
              obtain rfl : 0 = q236 := nI_ij (by decide) (by omega) hoq236
              replace hv236 : r236 = nI (eC es i) := hv236
              subst hv236
              have hc236 := hco i hk236
              refine g_ws (ws' := [(x0, .inr (4, [.ref s0, .ref k0, .ref p0, .ref t0])), (s0, .inr (2, [.ref sp, .ref sa, .ref sc])), (sp, .inl (ty.1, 11, .inl (zN p2))), (sa, .inl (ty.2.2, 10, .inl (zB al))), (sc, .inl (ty.2.2, 16, .inl (zB cs))), (k0, .inr (1, [.int (nI es.length), .ref kf, .ref ko, .ref ka, .ref kb, .ref kt, .ref kl, .ref kp])), (kf, .inl (ty.2.1, 2000, .inr (.inl fF))), (ko, .inl (ty.1, 2000, .inl oF)), (ka, .inl (ty.1, 2000, .inl aF)), (kb, .inl (ty.1, 2000, .inl bF)), (kt, .inl (ty.1, 8, .inl tF)), (kl, .inl (ty.1, 4096, .inl sF)), (y0, .inr (4, [.ref z0, .ref m0, .ref w0, .ref u0])), (z0, .inr (2, [.ref zp, .ref za, .ref zc])), (zp, .inl (ty.1, 11, .inl (zN p2))), (za, .inl (ty.2.2, 10, .inl (zB bl))), (zc, .inl (ty.2.2, 16, .inl (zB ct))), (m0, .inr (1, [.int (nI ds.length), .ref mf, .ref mo, .ref ma, .ref mb, .ref mt, .ref ml, .ref mp])), (mf, .inl (ty.2.1, 2000, .inr (.inl gF))), (mo, .inl (ty.1, 2000, .inl qF)), (ma, .inl (ty.1, 2000, .inl cF)), (mb, .inl (ty.1, 2000, .inl dF)), (mt, .inl (ty.1, 8, .inl uF)), (ml, .inl (ty.1, 4096, .inl vF)), (oa, .inl (ty.2.1, es.length, .inr (.inl (vp_updL fo i (eF es i)))))]) [19, 0, 1, 2, 3, 20, 4, 21, 22, 23, 24, 5, 6, 7, 8, 9, 10, 11, 12, 13, 14, 15, 16, 17, 18] rfl rfl rfl ?_
              refine g_aload_n C dL_law_239 3 rfl rfl ?_
              refine g_iload C dL_law_240 0 rfl ?_
              refine g_iconst C dL_law_242 (v := (nI 1)) (by decide) ?_
              refine g_isub C dL_law_243 (v := (nI (i - 1))) (pk_sub (by omega)) ?_
              refine g_iconst C dL_law_244 (v := (nI 0)) (by decide) ?_
              refine g_callTV C hX (t_X5_entry l hfl D ty x0 s0 p0 t0 k0 kf ko ka kb kt kl kp es fF oF aF bF tF sF (fun _ => 0) hw st ht (stI_b hI) hI.2.1 (nI (i - 1)) (nI 0)) rfl gL_law_X5_entry 2 (by decide +kernel) rfl ⟨rfl, rfl⟩ ⟨Nat.le_of_ble_eq_true rfl, Nat.le_of_ble_eq_true rfl⟩ (rest := [.int (nI (eC es i))]) (q0 := 0) rfl rfl hA [0, 5, 7, 8, 9, 10] [1, 2, 3, 4, 6, 11, 12, 13, 14, 15, 16, 17, 18, 19, 20, 21, 22, 23, 24] rfl rfl rfl (wr := [(s0, .inr (2, [.ref sp, .ref sa, .ref sc])), (sp, .inl (ty.1, 11, .inl (zN p2))), (sa, .inl (ty.2.2, 10, .inl (zB al))), (sc, .inl (ty.2.2, 16, .inl (zB cs))), (kf, .inl (ty.2.1, 2000, .inr (.inl fF))), (kl, .inl (ty.1, 4096, .inl sF)), (y0, .inr (4, [.ref z0, .ref m0, .ref w0, .ref u0])), (z0, .inr (2, [.ref zp, .ref za, .ref zc])), (zp, .inl (ty.1, 11, .inl (zN p2))), (za, .inl (ty.2.2, 10, .inl (zB bl))), (zc, .inl (ty.2.2, 16, .inl (zB ct))), (m0, .inr (1, [.int (nI ds.length), .ref mf, .ref mo, .ref ma, .ref mb, .ref mt, .ref ml, .ref mp])), (mf, .inl (ty.2.1, 2000, .inr (.inl gF))), (mo, .inl (ty.1, 2000, .inl qF)), (ma, .inl (ty.1, 2000, .inl cF)), (mb, .inl (ty.1, 2000, .inl dF)), (mt, .inl (ty.1, 8, .inl uF)), (ml, .inl (ty.1, 4096, .inl vF)), (oa, .inl (ty.2.1, es.length, .inr (.inl (vp_updL fo i (eF es i)))))]) rfl rfl rfl (Nat.le_of_ble_eq_true rfl) dL_law_245 ⟨by rw [hRc]; omega, by rw [hRs]; omega⟩ rfl ?_ (g_kui (fun r245 w hr245 => ?_))
              · intro E q9 hE
                exfalso
                obtain ⟨-, hq | hq⟩ := hE
                · rw [nI_toInt (by omega)] at hq
                  omega
                · rw [nI_toInt (by decide)] at hq
                  omega
              · skip
                obtain ⟨k245, q245, hk245, hok245, hq245, hoq245, hv245, rfl⟩ := hr245
                obtain rfl : i - 1 = k245 := nI_ij (by omega) (by omega) hok245
                obtain rfl : 0 = q245 := nI_ij (by decide) (by omega) hoq245
                replace hv245 : r245 = nI (eC es (i - 1)) := hv245
                subst hv245
                have hc245 := hco (i - 1) hk245
                refine g_ws (ws' := [(x0, .inr (4, [.ref s0, .ref k0, .ref p0, .ref t0])), (s0, .inr (2, [.ref sp, .ref sa, .ref sc])), (sp, .inl (ty.1, 11, .inl (zN p2))), (sa, .inl (ty.2.2, 10, .inl (zB al))), (sc, .inl (ty.2.2, 16, .inl (zB cs))), (k0, .inr (1, [.int (nI es.length), .ref kf, .ref ko, .ref ka, .ref kb, .ref kt, .ref kl, .ref kp])), (kf, .inl (ty.2.1, 2000, .inr (.inl fF))), (ko, .inl (ty.1, 2000, .inl oF)), (ka, .inl (ty.1, 2000, .inl aF)), (kb, .inl (ty.1, 2000, .inl bF)), (kt, .inl (ty.1, 8, .inl tF)), (kl, .inl (ty.1, 4096, .inl sF)), (y0, .inr (4, [.ref z0, .ref m0, .ref w0, .ref u0])), (z0, .inr (2, [.ref zp, .ref za, .ref zc])), (zp, .inl (ty.1, 11, .inl (zN p2))), (za, .inl (ty.2.2, 10, .inl (zB bl))), (zc, .inl (ty.2.2, 16, .inl (zB ct))), (m0, .inr (1, [.int (nI ds.length), .ref mf, .ref mo, .ref ma, .ref mb, .ref mt, .ref ml, .ref mp])), (mf, .inl (ty.2.1, 2000, .inr (.inl gF))), (mo, .inl (ty.1, 2000, .inl qF)), (ma, .inl (ty.1, 2000, .inl cF)), (mb, .inl (ty.1, 2000, .inl dF)), (mt, .inl (ty.1, 8, .inl uF)), (ml, .inl (ty.1, 4096, .inl vF)), (oa, .inl (ty.2.1, es.length, .inr (.inl (vp_updL fo i (eF es i)))))]) [19, 0, 1, 2, 3, 20, 4, 21, 22, 23, 24, 5, 6, 7, 8, 9, 10, 11, 12, 13, 14, 15, 16, 17, 18] rfl rfl rfl ?_
                refine g_icmp_ltN C dL_law_248 (tgt := 300) (by decide) (by omega) (by omega) (fun h248 => ?_) (fun h248 => ?_)
                · skip
                  exact absurd h248 (by have hcu := cost_up hI (i := i - 1) (j := i) (by omega) h199; omega)
                · skip
                  refine g_wid (k0 := (((80 + 5 * i) + 1) + 2)) (n0 := (((27300 + 30 * i) + 6) + 12)) (by omega) (by omega) ?_
                  exact J251 


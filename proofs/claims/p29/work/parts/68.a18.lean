set_option maxHeartbeats 4000000 in
set_option maxRecDepth 100000 in
theorem ls_18 {p : Program} {e : Env} {s : State} {m : MethodId} {args : Array Value} {below : List Frame} {meth : Method} {c : Code} {Q : State → Prop} {A : Nat → Prop} (l : Launch) (hfl : l.stackTraces = false) (D : va_G) (ty : g_T3) (C : g_Cx (g_IU A D s) p s m args c code 12 A D ty RL wsL_law) (hA : ∀ q, s.heap.size ≤ q → A q) (hX : g_Xok g_XT ∧ g_XT A s) {b L : Nat} {xs : Nat → Int32} (hsx : va_X b L xs s s.heap) (hbl : b < s.heap.size) (hbA : ¬ A b) (hL : L ≤ 260) (hEnd : ∀ (cells slots : Nat) (lv : g_Lv) (ws : va_W), cells ≤ 600086 → slots ≤ 7301442 → gG (g_IU A D s) p l e room_1 s m args below meth c Q 12 cells slots 604 lv [.int (nI 1)] ws) (x0 s0 sp sa sc k0 kf ko ka kb kt kl kp p0 t0 y0 z0 zp za zc m0 mf mo ma mb mt ml mp w0 u0 : Nat) (cs : Nat → Bool) (es : List Ent) (fF : Nat → Int64) (oF : Nat → Int32) (aF : Nat → Int32) (bF : Nat → Int32) (tF : Nat → Int32) (sF : Nat → Int32) (ds : List Ent) (gF : Nat → Int64) (qF : Nat → Int32) (cF : Nat → Int32) (dF : Nat → Int32) (uF : Nat → Int32) (vF : Nat → Int32) (hw : rowOk es fF oF aF bF sF) (hv : rowOk ds gF qF cF dF vF) : ∀ (n9 : Nat) (o : Nat) (p2 : Nat → Nat) (al : Nat → Bool) (bl : Nat → Bool), 10 - o < n9 → (o ≤ 10) → ((∀ k, k < 10 → 1 ≤ p2 k ∧ p2 k ≤ 5) ∧ p2 10 ≤ 5) → (∀ k, al k = true → bl k = true) → gG (g_IU A D s) p l e room_1 s m args below meth c Q 12 (34 + 4 * o) (25012 + 24 * o) 18 [(3, .int (nI o)), (0, .ref b), (1, .ref x0), (2, .ref y0)] [] [(x0, .inr (4, [.ref s0, .ref k0, .ref p0, .ref t0])), (s0, .inr (2, [.ref sp, .ref sa, .ref sc])), (sp, .inl (ty.1, 11, .inl (zN p2))), (sa, .inl (ty.2.2, 10, .inl (zB al))), (sc, .inl (ty.2.2, 16, .inl (zB cs))), (k0, .inr (1, [.int (nI es.length), .ref kf, .ref ko, .ref ka, .ref kb, .ref kt, .ref kl, .ref kp])), (kf, .inl (ty.2.1, 2000, .inr (.inl fF))), (ko, .inl (ty.1, 2000, .inl oF)), (ka, .inl (ty.1, 2000, .inl aF)), (kb, .inl (ty.1, 2000, .inl bF)), (kt, .inl (ty.1, 8, .inl tF)), (kl, .inl (ty.1, 4096, .inl sF)), (y0, .inr (4, [.ref z0, .ref m0, .ref w0, .ref u0])), (z0, .inr (2, [.ref zp, .ref za, .ref zc])), (zp, .inl (ty.1, 11, .inl (zN p2))), (za, .inl (ty.2.2, 10, .inl (zB bl))), (zc, .inl (ty.2.2, 16, .inl (zB cs))), (m0, .inr (1, [.int (nI ds.length), .ref mf, .ref mo, .ref ma, .ref mb, .ref mt, .ref ml, .ref mp])), (mf, .inl (ty.2.1, 2000, .inr (.inl gF))), (mo, .inl (ty.1, 2000, .inl qF)), (ma, .inl (ty.1, 2000, .inl cF)), (mb, .inl (ty.1, 2000, .inl dF)), (mt, .inl (ty.1, 8, .inl uF)), (ml, .inl (ty.1, 4096, .inl vF))] := by
  intro n9
  induction n9 with
  | zero => intro o p2 al bl hn; exact absurd hn (Nat.not_lt_zero _)
  | succ n9 ih18 =>
    intro o p2 al bl hn9 ho hp hal
    have hRc : room_1.cells = 600086 := rfl
    have hRs : room_1.slots = 7301442 := rfl
    refine g_iload_n C dL_law_18 0 rfl rfl ?_
    refine g_bipush C dL_law_19 (v := (nI 10)) (by decide) ?_
    refine g_icmp_geN C dL_law_21 (tgt := 124) (by decide) (by omega) (by omega) (fun h21 => ?_) (fun h21 => ?_)
    · skip
      refine g_lv (lv' := [(0, .ref b), (1, .ref x0), (2, .ref y0)]) [1, 2, 3] rfl ?_
      refine g_wid (k0 := (74)) (n0 := (25252)) (by omega) (by omega) ?_
      exact ls_124 l hfl D ty C hA hX hsx hbl hbA hL hEnd x0 s0 sp sa sc k0 kf ko ka kb kt kl kp p0 t0 y0 z0 zp za zc m0 mf mo ma mb mt ml mp w0 u0 p2 al bl cs es fF oF aF bF tF sF ds gF qF cF dF uF vF hp hal hw hv
    · skip
      refine g_aload_n C dL_law_24 1 rfl rfl ?_
      refine g_iconst C dL_law_25 (v := (nI 0)) (by decide) ?_
      refine g_callPS C ⟨g_XS_ok b L xs, hsx, hbl, hbA⟩ (t_L_cell l D ty b L xs hL 0 (by omega)) rfl gL_law_L_cell 2 (by decide +kernel) rfl ⟨rfl, rfl⟩ ⟨Nat.le_of_ble_eq_true rfl, Nat.le_of_ble_eq_true rfl⟩ (rest := []) [] rfl (Nat.le_of_ble_eq_true rfl) dL_law_26 ⟨by rw [hRc]; omega, by rw [hRs]; omega⟩ rfl (g_ki (fun r26 hr26 => ?_))
      clear hr26
      refine g_iconst C dL_law_29 (v := (nI 2)) (by decide) ?_
      refine g_iload_n C dL_law_30 0 rfl rfl ?_
      refine g_imul C dL_law_31 (v := (nI (2 * o))) (pk_mul _ _) ?_
      refine g_ishr C dL_law_32 (v := (i_shr r26 (nI (2 * o)))) rfl ?_
      refine g_iconst C dL_law_33 (v := (nI 3)) (by decide) ?_
      refine g_callPS C ⟨g_X0_ok, trivial⟩ (t_L_below l D ty (i_shr r26 (nI (2 * o))) 3 (by omega) (by omega)) rfl gL_law_L_below 2 (by decide +kernel) rfl ⟨rfl, rfl⟩ ⟨Nat.le_of_ble_eq_true rfl, Nat.le_of_ble_eq_true rfl⟩ (rest := []) [] rfl (Nat.le_of_ble_eq_true rfl) dL_law_34 ⟨by rw [hRc]; omega, by rw [hRs]; omega⟩ rfl (g_ki (fun r34 hr34 => ?_))
      obtain ⟨q34, hq34, rfl⟩ := hr34
      have J45 : ∀ (ib : Bool), gG (g_IU A D s) p l e room_1 s m args below meth c Q 12 (34 + 4 * o) (25012 + 24 * o) 45 [(3, .int (nI o)), (0, .ref b), (1, .ref x0), (2, .ref y0)] [.int (nI ib.toNat)] [(x0, .inr (4, [.ref s0, .ref k0, .ref p0, .ref t0])), (s0, .inr (2, [.ref sp, .ref sa, .ref sc])), (sp, .inl (ty.1, 11, .inl (zN p2))), (sa, .inl (ty.2.2, 10, .inl (zB al))), (sc, .inl (ty.2.2, 16, .inl (zB cs))), (k0, .inr (1, [.int (nI es.length), .ref kf, .ref ko, .ref ka, .ref kb, .ref kt, .ref kl, .ref kp])), (kf, .inl (ty.2.1, 2000, .inr (.inl fF))), (ko, .inl (ty.1, 2000, .inl oF)), (ka, .inl (ty.1, 2000, .inl aF)), (kb, .inl (ty.1, 2000, .inl bF)), (kt, .inl (ty.1, 8, .inl tF)), (kl, .inl (ty.1, 4096, .inl sF)), (y0, .inr (4, [.ref z0, .ref m0, .ref w0, .ref u0])), (z0, .inr (2, [.ref zp, .ref za, .ref zc])), (zp, .inl (ty.1, 11, .inl (zN p2))), (za, .inl (ty.2.2, 10, .inl (zB bl))), (zc, .inl (ty.2.2, 16, .inl (zB cs))), (m0, .inr (1, [.int (nI ds.length), .ref mf, .ref mo, .ref ma, .ref mb, .ref mt, .ref ml, .ref mp])), (mf, .inl (ty.2.1, 2000, .inr (.inl gF))), (mo, .inl (ty.1, 2000, .inl qF)), (ma, .inl (ty.1, 2000, .inl cF)), (mb, .inl (ty.1, 2000, .inl dF)), (mt, .inl (ty.1, 8, .inl uF)), (ml, .inl (ty.1, 4096, .inl vF))] := by
        intro ib
        have hib := bt_lt ib
        refine g_istore C dL_law_45 (by decide) (lv' := [(4, .int (nI ib.toNat)), (3, .int (nI o)), (0, .ref b), (1, .ref x0), (2, .ref y0)]) rfl ?_
        refine g_iconst C dL_law_47 (v := (nI 1)) (by decide) ?_
        refine g_aload_n C dL_law_48 2 rfl rfl ?_
        refine g_iconst C dL_law_49 (v := (nI 1)) (by decide) ?_
        refine g_callPS C ⟨g_XS_ok b L xs, hsx, hbl, hbA⟩ (t_L_cell l D ty b L xs hL 1 (by omega)) rfl gL_law_L_cell 2 (by decide +kernel) rfl ⟨rfl, rfl⟩ ⟨Nat.le_of_ble_eq_true rfl, Nat.le_of_ble_eq_true rfl⟩ (rest := [.int (nI 1)]) [] rfl (Nat.le_of_ble_eq_true rfl) dL_law_50 ⟨by rw [hRc]; omega, by rw [hRs]; omega⟩ rfl (g_ki (fun r50 hr50 => ?_))
        clear hr50
        refine g_iconst C dL_law_53 (v := (nI 2)) (by decide) ?_
        refine g_iload_n C dL_law_54 1 rfl rfl ?_
        refine g_imul C dL_law_55 (v := (nI (2 * o))) (pk_mul _ _) ?_
        refine g_ishr C dL_law_56 (v := (i_shr r50 (nI (2 * o)))) rfl ?_
        refine g_iconst C dL_law_57 (v := (nI 2)) (by decide) ?_
        refine g_callPS C ⟨g_X0_ok, trivial⟩ (t_L_below l D ty (i_shr r50 (nI (2 * o))) 2 (by omega) (by omega)) rfl gL_law_L_below 2 (by decide +kernel) rfl ⟨rfl, rfl⟩ ⟨Nat.le_of_ble_eq_true rfl, Nat.le_of_ble_eq_true rfl⟩ (rest := [.int (nI 1)]) [] rfl (Nat.le_of_ble_eq_true rfl) dL_law_58 ⟨by rw [hRc]; omega, by rw [hRs]; omega⟩ rfl (g_ki (fun r58 hr58 => ?_))
        obtain ⟨q58, hq58, rfl⟩ := hr58
        refine g_iadd C dL_law_61 (v := (nI (1 + q58))) (nI_add _ _) ?_
        refine g_istore C dL_law_62 (by decide) (lv' := [(5, .int (nI (1 + q58))), (4, .int (nI ib.toNat)), (3, .int (nI o)), (0, .ref b), (1, .ref x0), (2, .ref y0)]) rfl ?_
        refine g_aload_n C dL_law_64 4 rfl rfl ?_
        refine g_iload_n C dL_law_65 2 rfl rfl ?_
        refine g_iload C dL_law_66 1 rfl ?_
        refine g_callTV C hX (t_X5_allow l hfl D ty x0 s0 k0 p0 t0 sp sa sc al (nI o) ib) rfl gL_law_X5_allow 2 (by decide +kernel) rfl ⟨rfl, rfl⟩ ⟨Nat.le_of_ble_eq_true rfl, Nat.le_of_ble_eq_true rfl⟩ (rest := []) (q0 := 0) rfl rfl hA [0, 1, 3] [2, 4, 5, 6, 7, 8, 9, 10, 11, 12, 13, 14, 15, 16, 17, 18, 19, 20, 21, 22, 23] rfl rfl rfl (wr := [(sp, .inl (ty.1, 11, .inl (zN p2))), (sc, .inl (ty.2.2, 16, .inl (zB cs))), (k0, .inr (1, [.int (nI es.length), .ref kf, .ref ko, .ref ka, .ref kb, .ref kt, .ref kl, .ref kp])), (kf, .inl (ty.2.1, 2000, .inr (.inl fF))), (ko, .inl (ty.1, 2000, .inl oF)), (ka, .inl (ty.1, 2000, .inl aF)), (kb, .inl (ty.1, 2000, .inl bF)), (kt, .inl (ty.1, 8, .inl tF)), (kl, .inl (ty.1, 4096, .inl sF)), (y0, .inr (4, [.ref z0, .ref m0, .ref w0, .ref u0])), (z0, .inr (2, [.ref zp, .ref za, .ref zc])), (zp, .inl (ty.1, 11, .inl (zN p2))), (za, .inl (ty.2.2, 10, .inl (zB bl))), (zc, .inl (ty.2.2, 16, .inl (zB cs))), (m0, .inr (1, [.int (nI ds.length), .ref mf, .ref mo, .ref ma, .ref mb, .ref mt, .ref ml, .ref mp])), (mf, .inl (ty.2.1, 2000, .inr (.inl gF))), (mo, .inl (ty.1, 2000, .inl qF)), (ma, .inl (ty.1, 2000, .inl cF)), (mb, .inl (ty.1, 2000, .inl dF)), (mt, .inl (ty.1, 8, .inl uF)), (ml, .inl (ty.1, 4096, .inl vF))]) rfl rfl rfl (Nat.le_of_ble_eq_true rfl) dL_law_68 ⟨by rw [hRc]; omega, by rw [hRs]; omega⟩ rfl ?_ (g_kui (fun r68 w hr68 => ?_))
        · intro E q9 hE
          exfalso
          obtain ⟨-, hq⟩ := hE
          rw [nI_toInt (by omega)] at hq
          omega
        · skip
          obtain ⟨k68, hk68, hok68, rfl, rfl⟩ := hr68
          obtain rfl : o = k68 := nI_ij (by omega) (by omega) hok68
          refine g_ws (ws' := [(x0, .inr (4, [.ref s0, .ref k0, .ref p0, .ref t0])), (s0, .inr (2, [.ref sp, .ref sa, .ref sc])), (sp, .inl (ty.1, 11, .inl (zN p2))), (sa, .inl (ty.2.2, 10, .inl (zB (va_up al o ib)))), (sc, .inl (ty.2.2, 16, .inl (zB cs))), (k0, .inr (1, [.int (nI es.length), .ref kf, .ref ko, .ref ka, .ref kb, .ref kt, .ref kl, .ref kp])), (kf, .inl (ty.2.1, 2000, .inr (.inl fF))), (ko, .inl (ty.1, 2000, .inl oF)), (ka, .inl (ty.1, 2000, .inl aF)), (kb, .inl (ty.1, 2000, .inl bF)), (kt, .inl (ty.1, 8, .inl tF)), (kl, .inl (ty.1, 4096, .inl sF)), (y0, .inr (4, [.ref z0, .ref m0, .ref w0, .ref u0])), (z0, .inr (2, [.ref zp, .ref za, .ref zc])), (zp, .inl (ty.1, 11, .inl (zN p2))), (za, .inl (ty.2.2, 10, .inl (zB bl))), (zc, .inl (ty.2.2, 16, .inl (zB cs))), (m0, .inr (1, [.int (nI ds.length), .ref mf, .ref mo, .ref ma, .ref mb, .ref mt, .ref ml, .ref mp])), (mf, .inl (ty.2.1, 2000, .inr (.inl gF))), (mo, .inl (ty.1, 2000, .inl qF)), (ma, .inl (ty.1, 2000, .inl cF)), (mb, .inl (ty.1, 2000, .inl dF)), (mt, .inl (ty.1, 8, .inl uF)), (ml, .inl (ty.1, 4096, .inl vF))]) [21, 22, 0, 23, 1, 2, 3, 4, 5, 6, 7, 8, 9, 10, 11, 12, 13, 14, 15, 16, 17, 18, 19, 20] rfl rfl rfl ?_
          refine g_pop C dL_law_71 rfl ?_
          refine g_aload_n C dL_law_72 4 rfl rfl ?_
          refine g_iload_n C dL_law_73 2 rfl rfl ?_
          refine g_iload C dL_law_74 0 rfl ?_
          refine g_callTV C hX (t_X5_setPrice l hfl D ty x0 s0 k0 p0 t0 sp sa sc p2 (nI o) (nI (1 + q58))) rfl gL_law_X5_setPrice 2 (by decide +kernel) rfl ⟨rfl, rfl⟩ ⟨Nat.le_of_ble_eq_true rfl, Nat.le_of_ble_eq_true rfl⟩ (rest := []) (q0 := 0) rfl rfl hA [0, 1, 2] [3, 4, 5, 6, 7, 8, 9, 10, 11, 12, 13, 14, 15, 16, 17, 18, 19, 20, 21, 22, 23] rfl rfl rfl (wr := [(sa, .inl (ty.2.2, 10, .inl (zB (va_up al o ib)))), (sc, .inl (ty.2.2, 16, .inl (zB cs))), (k0, .inr (1, [.int (nI es.length), .ref kf, .ref ko, .ref ka, .ref kb, .ref kt, .ref kl, .ref kp])), (kf, .inl (ty.2.1, 2000, .inr (.inl fF))), (ko, .inl (ty.1, 2000, .inl oF)), (ka, .inl (ty.1, 2000, .inl aF)), (kb, .inl (ty.1, 2000, .inl bF)), (kt, .inl (ty.1, 8, .inl tF)), (kl, .inl (ty.1, 4096, .inl sF)), (y0, .inr (4, [.ref z0, .ref m0, .ref w0, .ref u0])), (z0, .inr (2, [.ref zp, .ref za, .ref zc])), (zp, .inl (ty.1, 11, .inl (zN p2))), (za, .inl (ty.2.2, 10, .inl (zB bl))), (zc, .inl (ty.2.2, 16, .inl (zB cs))), (m0, .inr (1, [.int (nI ds.length), .ref mf, .ref mo, .ref ma, .ref mb, .ref mt, .ref ml, .ref mp])), (mf, .inl (ty.2.1, 2000, .inr (.inl gF))), (mo, .inl (ty.1, 2000, .inl qF)), (ma, .inl (ty.1, 2000, .inl cF)), (mb, .inl (ty.1, 2000, .inl dF)), (mt, .inl (ty.1, 8, .inl uF)), (ml, .inl (ty.1, 4096, .inl vF))]) rfl rfl rfl (Nat.le_of_ble_eq_true rfl) dL_law_76 ⟨by rw [hRc]; omega, by rw [hRs]; omega⟩ rfl ?_ (g_kui (fun r76 w hr76 => ?_))
          · intro E q9 hE
            exfalso
            rcases hE with ⟨-, hq⟩ | ⟨-, k8, hk8, hok8, hq⟩
            · rw [nI_toInt (by omega)] at hq; omega
            · rw [nI_toInt (by omega)] at hq
              obtain rfl : o = k8 := nI_ij (by omega) (by omega) hok8
              rw [if_neg (by omega)] at hq
              omega
          · skip
            obtain ⟨k76, u76, hk76, hok76, hvu76, hlo76, hu76, rfl, rfl⟩ := hr76
            obtain rfl : o = k76 := nI_ij (by omega) (by omega) hok76
            obtain rfl : 1 + q58 = u76 := nI_ij (by omega) (by omega) hvu76
            refine g_ws (ws' := [(x0, .inr (4, [.ref s0, .ref k0, .ref p0, .ref t0])), (s0, .inr (2, [.ref sp, .ref sa, .ref sc])), (sp, .inl (ty.1, 11, .inl (zN (va_up p2 o (1 + q58))))), (sa, .inl (ty.2.2, 10, .inl (zB (va_up al o ib)))), (sc, .inl (ty.2.2, 16, .inl (zB cs))), (k0, .inr (1, [.int (nI es.length), .ref kf, .ref ko, .ref ka, .ref kb, .ref kt, .ref kl, .ref kp])), (kf, .inl (ty.2.1, 2000, .inr (.inl fF))), (ko, .inl (ty.1, 2000, .inl oF)), (ka, .inl (ty.1, 2000, .inl aF)), (kb, .inl (ty.1, 2000, .inl bF)), (kt, .inl (ty.1, 8, .inl tF)), (kl, .inl (ty.1, 4096, .inl sF)), (y0, .inr (4, [.ref z0, .ref m0, .ref w0, .ref u0])), (z0, .inr (2, [.ref zp, .ref za, .ref zc])), (zp, .inl (ty.1, 11, .inl (zN p2))), (za, .inl (ty.2.2, 10, .inl (zB bl))), (zc, .inl (ty.2.2, 16, .inl (zB cs))), (m0, .inr (1, [.int (nI ds.length), .ref mf, .ref mo, .ref ma, .ref mb, .ref mt, .ref ml, .ref mp])), (mf, .inl (ty.2.1, 2000, .inr (.inl gF))), (mo, .inl (ty.1, 2000, .inl qF)), (ma, .inl (ty.1, 2000, .inl cF)), (mb, .inl (ty.1, 2000, .inl dF)), (mt, .inl (ty.1, 8, .inl uF)), (ml, .inl (ty.1, 4096, .inl vF))]) [21, 22, 23, 0, 1, 2, 3, 4, 5, 6, 7, 8, 9, 10, 11, 12, 13, 14, 15, 16, 17, 18, 19, 20] rfl rfl rfl ?_
            refine g_pop C dL_law_79 rfl ?_
            refine g_aload_n C dL_law_80 5 rfl rfl ?_
            refine g_iload_n C dL_law_81 2 rfl rfl ?_
            refine g_iload C dL_law_82 1 rfl ?_
            have J106 : ∀ (bb : Bool), (ib = true → bb = true) → gG (g_IU A D s) p l e room_1 s m args below meth c Q 12 (((34 + 4 * o) + 1) + 1) (((25012 + 24 * o) + 6) + 6) 106 [(5, .int (nI (1 + q58))), (4, .int (nI ib.toNat)), (3, .int (nI o)), (0, .ref b), (1, .ref x0), (2, .ref y0)] [.int (nI bb.toNat), .int (nI o), .ref y0] [(x0, .inr (4, [.ref s0, .ref k0, .ref p0, .ref t0])), (s0, .inr (2, [.ref sp, .ref sa, .ref sc])), (sp, .inl (ty.1, 11, .inl (zN (va_up p2 o (1 + q58))))), (sa, .inl (ty.2.2, 10, .inl (zB (va_up al o ib)))), (sc, .inl (ty.2.2, 16, .inl (zB cs))), (k0, .inr (1, [.int (nI es.length), .ref kf, .ref ko, .ref ka, .ref kb, .ref kt, .ref kl, .ref kp])), (kf, .inl (ty.2.1, 2000, .inr (.inl fF))), (ko, .inl (ty.1, 2000, .inl oF)), (ka, .inl (ty.1, 2000, .inl aF)), (kb, .inl (ty.1, 2000, .inl bF)), (kt, .inl (ty.1, 8, .inl tF)), (kl, .inl (ty.1, 4096, .inl sF)), (y0, .inr (4, [.ref z0, .ref m0, .ref w0, .ref u0])), (z0, .inr (2, [.ref zp, .ref za, .ref zc])), (zp, .inl (ty.1, 11, .inl (zN p2))), (za, .inl (ty.2.2, 10, .inl (zB bl))), (zc, .inl (ty.2.2, 16, .inl (zB cs))), (m0, .inr (1, [.int (nI ds.length), .ref mf, .ref mo, .ref ma, .ref mb, .ref mt, .ref ml, .ref mp])), (mf, .inl (ty.2.1, 2000, .inr (.inl gF))), (mo, .inl (ty.1, 2000, .inl qF)), (ma, .inl (ty.1, 2000, .inl cF)), (mb, .inl (ty.1, 2000, .inl dF)), (mt, .inl (ty.1, 8, .inl uF)), (ml, .inl (ty.1, 4096, .inl vF))] := by
              intro bb hbb
              refine g_callTV C hX (t_X5_allow l hfl D ty y0 z0 m0 w0 u0 zp za zc bl (nI o) bb) rfl gL_law_X5_allow 2 (by decide +kernel) rfl ⟨rfl, rfl⟩ ⟨Nat.le_of_ble_eq_true rfl, Nat.le_of_ble_eq_true rfl⟩ (rest := []) (q0 := 12) rfl rfl hA [12, 13, 15] [0, 1, 2, 3, 4, 5, 6, 7, 8, 9, 10, 11, 14, 16, 17, 18, 19, 20, 21, 22, 23] rfl rfl rfl (wr := [(x0, .inr (4, [.ref s0, .ref k0, .ref p0, .ref t0])), (s0, .inr (2, [.ref sp, .ref sa, .ref sc])), (sp, .inl (ty.1, 11, .inl (zN (va_up p2 o (1 + q58))))), (sa, .inl (ty.2.2, 10, .inl (zB (va_up al o ib)))), (sc, .inl (ty.2.2, 16, .inl (zB cs))), (k0, .inr (1, [.int (nI es.length), .ref kf, .ref ko, .ref ka, .ref kb, .ref kt, .ref kl, .ref kp])), (kf, .inl (ty.2.1, 2000, .inr (.inl fF))), (ko, .inl (ty.1, 2000, .inl oF)), (ka, .inl (ty.1, 2000, .inl aF)), (kb, .inl (ty.1, 2000, .inl bF)), (kt, .inl (ty.1, 8, .inl tF)), (kl, .inl (ty.1, 4096, .inl sF)), (zp, .inl (ty.1, 11, .inl (zN p2))), (zc, .inl (ty.2.2, 16, .inl (zB cs))), (m0, .inr (1, [.int (nI ds.length), .ref mf, .ref mo, .ref ma, .ref mb, .ref mt, .ref ml, .ref mp])), (mf, .inl (ty.2.1, 2000, .inr (.inl gF))), (mo, .inl (ty.1, 2000, .inl qF)), (ma, .inl (ty.1, 2000, .inl cF)), (mb, .inl (ty.1, 2000, .inl dF)), (mt, .inl (ty.1, 8, .inl uF)), (ml, .inl (ty.1, 4096, .inl vF))]) rfl rfl rfl (Nat.le_of_ble_eq_true rfl) dL_law_106 ⟨by rw [hRc]; omega, by rw [hRs]; omega⟩ rfl ?_ (g_kui (fun r106 w hr106 => ?_))
              · intro E q9 hE
                exfalso
                obtain ⟨-, hq⟩ := hE
                rw [nI_toInt (by omega)] at hq
                omega
              · skip
                obtain ⟨k106, hk106, hok106, rfl, rfl⟩ := hr106
                obtain rfl : o = k106 := nI_ij (by omega) (by omega) hok106
                refine g_ws (ws' := [(x0, .inr (4, [.ref s0, .ref k0, .ref p0, .ref t0])), (s0, .inr (2, [.ref sp, .ref sa, .ref sc])), (sp, .inl (ty.1, 11, .inl (zN (va_up p2 o (1 + q58))))), (sa, .inl (ty.2.2, 10, .inl (zB (va_up al o ib)))), (sc, .inl (ty.2.2, 16, .inl (zB cs))), (k0, .inr (1, [.int (nI es.length), .ref kf, .ref ko, .ref ka, .ref kb, .ref kt, .ref kl, .ref kp])), (kf, .inl (ty.2.1, 2000, .inr (.inl fF))), (ko, .inl (ty.1, 2000, .inl oF)), (ka, .inl (ty.1, 2000, .inl aF)), (kb, .inl (ty.1, 2000, .inl bF)), (kt, .inl (ty.1, 8, .inl tF)), (kl, .inl (ty.1, 4096, .inl sF)), (y0, .inr (4, [.ref z0, .ref m0, .ref w0, .ref u0])), (z0, .inr (2, [.ref zp, .ref za, .ref zc])), (zp, .inl (ty.1, 11, .inl (zN p2))), (za, .inl (ty.2.2, 10, .inl (zB (va_up bl o bb)))), (zc, .inl (ty.2.2, 16, .inl (zB cs))), (m0, .inr (1, [.int (nI ds.length), .ref mf, .ref mo, .ref ma, .ref mb, .ref mt, .ref ml, .ref mp])), (mf, .inl (ty.2.1, 2000, .inr (.inl gF))), (mo, .inl (ty.1, 2000, .inl qF)), (ma, .inl (ty.1, 2000, .inl cF)), (mb, .inl (ty.1, 2000, .inl dF)), (mt, .inl (ty.1, 8, .inl uF)), (ml, .inl (ty.1, 4096, .inl vF))]) [0, 1, 2, 3, 4, 5, 6, 7, 8, 9, 10, 11, 21, 22, 12, 23, 13, 14, 15, 16, 17, 18, 19, 20] rfl rfl rfl ?_
                refine g_pop C dL_law_109 rfl ?_
                refine g_aload_n C dL_law_110 5 rfl rfl ?_
                refine g_iload_n C dL_law_111 2 rfl rfl ?_
                refine g_iload C dL_law_112 0 rfl ?_
                refine g_callTV C hX (t_X5_setPrice l hfl D ty y0 z0 m0 w0 u0 zp za zc p2 (nI o) (nI (1 + q58))) rfl gL_law_X5_setPrice 2 (by decide +kernel) rfl ⟨rfl, rfl⟩ ⟨Nat.le_of_ble_eq_true rfl, Nat.le_of_ble_eq_true rfl⟩ (rest := []) (q0 := 12) rfl rfl hA [12, 13, 14] [0, 1, 2, 3, 4, 5, 6, 7, 8, 9, 10, 11, 15, 16, 17, 18, 19, 20, 21, 22, 23] rfl rfl rfl (wr := [(x0, .inr (4, [.ref s0, .ref k0, .ref p0, .ref t0])), (s0, .inr (2, [.ref sp, .ref sa, .ref sc])), (sp, .inl (ty.1, 11, .inl (zN (va_up p2 o (1 + q58))))), (sa, .inl (ty.2.2, 10, .inl (zB (va_up al o ib)))), (sc, .inl (ty.2.2, 16, .inl (zB cs))), (k0, .inr (1, [.int (nI es.length), .ref kf, .ref ko, .ref ka, .ref kb, .ref kt, .ref kl, .ref kp])), (kf, .inl (ty.2.1, 2000, .inr (.inl fF))), (ko, .inl (ty.1, 2000, .inl oF)), (ka, .inl (ty.1, 2000, .inl aF)), (kb, .inl (ty.1, 2000, .inl bF)), (kt, .inl (ty.1, 8, .inl tF)), (kl, .inl (ty.1, 4096, .inl sF)), (za, .inl (ty.2.2, 10, .inl (zB (va_up bl o bb)))), (zc, .inl (ty.2.2, 16, .inl (zB cs))), (m0, .inr (1, [.int (nI ds.length), .ref mf, .ref mo, .ref ma, .ref mb, .ref mt, .ref ml, .ref mp])), (mf, .inl (ty.2.1, 2000, .inr (.inl gF))), (mo, .inl (ty.1, 2000, .inl qF)), (ma, .inl (ty.1, 2000, .inl cF)), (mb, .inl (ty.1, 2000, .inl dF)), (mt, .inl (ty.1, 8, .inl uF)), (ml, .inl (ty.1, 4096, .inl vF))]) rfl rfl rfl (Nat.le_of_ble_eq_true rfl) dL_law_114 ⟨by rw [hRc]; omega, by rw [hRs]; omega⟩ rfl ?_ (g_kui (fun r114 w hr114 => ?_))
                · intro E q9 hE
                  exfalso
                  rcases hE with ⟨-, hq⟩ | ⟨-, k8, hk8, hok8, hq⟩
                  · rw [nI_toInt (by omega)] at hq; omega
                  · rw [nI_toInt (by omega)] at hq
                    obtain rfl : o = k8 := nI_ij (by omega) (by omega) hok8
                    rw [if_neg (by omega)] at hq
                    omega
                · skip
                  obtain ⟨k114, u114, hk114, hok114, hvu114, hlo114, hu114, rfl, rfl⟩ := hr114
                  obtain rfl : o = k114 := nI_ij (by omega) (by omega) hok114
                  obtain rfl : 1 + q58 = u114 := nI_ij (by omega) (by omega) hvu114
                  refine g_ws (ws' := [(x0, .inr (4, [.ref s0, .ref k0, .ref p0, .ref t0])), (s0, .inr (2, [.ref sp, .ref sa, .ref sc])), (sp, .inl (ty.1, 11, .inl (zN (va_up p2 o (1 + q58))))), (sa, .inl (ty.2.2, 10, .inl (zB (va_up al o ib)))), (sc, .inl (ty.2.2, 16, .inl (zB cs))), (k0, .inr (1, [.int (nI es.length), .ref kf, .ref ko, .ref ka, .ref kb, .ref kt, .ref kl, .ref kp])), (kf, .inl (ty.2.1, 2000, .inr (.inl fF))), (ko, .inl (ty.1, 2000, .inl oF)), (ka, .inl (ty.1, 2000, .inl aF)), (kb, .inl (ty.1, 2000, .inl bF)), (kt, .inl (ty.1, 8, .inl tF)), (kl, .inl (ty.1, 4096, .inl sF)), (y0, .inr (4, [.ref z0, .ref m0, .ref w0, .ref u0])), (z0, .inr (2, [.ref zp, .ref za, .ref zc])), (zp, .inl (ty.1, 11, .inl (zN (va_up p2 o (1 + q58))))), (za, .inl (ty.2.2, 10, .inl (zB (va_up bl o bb)))), (zc, .inl (ty.2.2, 16, .inl (zB cs))), (m0, .inr (1, [.int (nI ds.length), .ref mf, .ref mo, .ref ma, .ref mb, .ref mt, .ref ml, .ref mp])), (mf, .inl (ty.2.1, 2000, .inr (.inl gF))), (mo, .inl (ty.1, 2000, .inl qF)), (ma, .inl (ty.1, 2000, .inl cF)), (mb, .inl (ty.1, 2000, .inl dF)), (mt, .inl (ty.1, 8, .inl uF)), (ml, .inl (ty.1, 4096, .inl vF))]) [0, 1, 2, 3, 4, 5, 6, 7, 8, 9, 10, 11, 21, 22, 23, 12, 13, 14, 15, 16, 17, 18, 19, 20] rfl rfl rfl ?_
                  refine g_pop C dL_law_117 rfl ?_
                  refine g_iinc C dL_law_118 2 rfl (v := (nI (o + 1))) (nI_1 o) (by decide) (lv' := [(3, .int (nI (o + 1))), (5, .int (nI (1 + q58))), (4, .int (nI ib.toNat)), (0, .ref b), (1, .ref x0), (2, .ref y0)]) rfl ?_
                  refine g_goto C dL_law_121 (tgt := 18) (by decide) ?_
                  refine g_lv (lv' := [(3, .int (nI (o + 1))), (0, .ref b), (1, .ref x0), (2, .ref y0)]) [0, 3, 4, 5] rfl ?_
                  refine g_wid (k0 := (34 + 4 * (o + 1))) (n0 := (25012 + 24 * (o + 1))) (by omega) (by omega) ?_
                  exact ih18 (o + 1) (va_up p2 o (1 + q58)) (va_up al o ib) (va_up bl o bb) (by omega) (by omega) (hp_up hp hlo76 hu76) (up_sub hal hbb)
            refine g_if_neN C dL_law_84 (tgt := 101) (by decide) (by omega) (fun h84 => ?_) (fun h84 => ?_)
            · skip
              refine g_iconst C dL_law_101 (v := (nI 1)) (by decide) ?_
              refine g_goto C dL_law_102 (tgt := 106) (by decide) ?_
              refine g_wid (k0 := (((34 + 4 * o) + 1) + 1)) (n0 := (((25012 + 24 * o) + 6) + 6)) (by omega) (by omega) ?_
              exact J106 true (fun _ => rfl)
            · skip
              refine g_aload_n C dL_law_87 3 rfl rfl ?_
              refine g_iconst C dL_law_88 (v := (nI 2)) (by decide) ?_
              refine g_callPS C ⟨g_XS_ok b L xs, hsx, hbl, hbA⟩ (t_L_cell l D ty b L xs hL 2 (by omega)) rfl gL_law_L_cell 2 (by decide +kernel) rfl ⟨rfl, rfl⟩ ⟨Nat.le_of_ble_eq_true rfl, Nat.le_of_ble_eq_true rfl⟩ (rest := [.int (nI o), .ref y0]) [] rfl (Nat.le_of_ble_eq_true rfl) dL_law_89 ⟨by rw [hRc]; omega, by rw [hRs]; omega⟩ rfl (g_ki (fun r89 hr89 => ?_))
              clear hr89
              refine g_iload_n C dL_law_92 2 rfl rfl ?_
              refine g_ishr C dL_law_93 (v := (i_shr r89 (nI o))) rfl ?_
              refine g_iconst C dL_law_94 (v := (nI 3)) (by decide) ?_
              refine g_callPS C ⟨g_X0_ok, trivial⟩ (t_L_below l D ty (i_shr r89 (nI o)) 3 (by omega) (by omega)) rfl gL_law_L_below 2 (by decide +kernel) rfl ⟨rfl, rfl⟩ ⟨Nat.le_of_ble_eq_true rfl, Nat.le_of_ble_eq_true rfl⟩ (rest := [.int (nI o), .ref y0]) [] rfl (Nat.le_of_ble_eq_true rfl) dL_law_95 ⟨by rw [hRc]; omega, by rw [hRs]; omega⟩ rfl (g_ki (fun r95 hr95 => ?_))
              obtain ⟨q95, hq95, rfl⟩ := hr95
              refine g_if_neN C dL_law_98 (tgt := 105) (by decide) (by omega) (fun h98 => ?_) (fun h98 => ?_)
              · skip
                refine g_iconst C dL_law_105 (v := (nI 0)) (by decide) ?_
                refine g_wid (k0 := (((34 + 4 * o) + 1) + 1)) (n0 := (((25012 + 24 * o) + 6) + 6)) (by omega) (by omega) ?_
                exact J106 false (fun z => absurd h84 (by rw [z]; decide))
              · skip
                refine g_iconst C dL_law_101 (v := (nI 1)) (by decide) ?_
                refine g_goto C dL_law_102 (tgt := 106) (by decide) ?_
                refine g_wid (k0 := (((34 + 4 * o) + 1) + 1)) (n0 := (((25012 + 24 * o) + 6) + 6)) (by omega) (by omega) ?_
                exact J106 true (fun _ => rfl)
      refine g_if_neN C dL_law_37 (tgt := 44) (by decide) (by omega) (fun h37 => ?_) (fun h37 => ?_)
      · skip
        refine g_iconst C dL_law_44 (v := (nI 0)) (by decide) ?_
        refine g_wid (k0 := (34 + 4 * o)) (n0 := (25012 + 24 * o)) (by omega) (by omega) ?_
        exact J45 false
      · skip
        refine g_iconst C dL_law_40 (v := (nI 1)) (by decide) ?_
        refine g_goto C dL_law_41 (tgt := 45) (by decide) ?_
        refine g_wid (k0 := (34 + 4 * o)) (n0 := (25012 + 24 * o)) (by omega) (by omega) ?_
        exact J45 true


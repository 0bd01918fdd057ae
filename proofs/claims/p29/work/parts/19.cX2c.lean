abbrev rm_t_X2_makeCost : Room := ({ frames := 4, cells := 0, slots := 0, locals := 103 } : Room)
set_option maxHeartbeats 4000000 in
set_option maxRecDepth 100000 in
theorem t_X2_makeCost (l : Launch) (D : va_G) (ty : g_T3) (k0 kf ko ka kb kt kl kp : Nat) (es : List Ent) (fF : Nat → Int64) (oF aF bF tF sF pF : Nat → Int32) (hw : rowOk es fF oF aF bF sF) (s0 sp sa sc : Nat) (p2 : Nat → Nat) (al cs : Nat → Bool) (hp : (∀ k, k < 10 → 1 ≤ p2 k ∧ p2 k ≤ 5) ∧ p2 10 ≤ 5) (st : Nat → Nat) (cv : Nat) (hs : stOk st tF cv es.length) (hc6 : cv ≤ 6) : g_U l yX2_makeCost wsX2_makeCost rm_t_X2_makeCost D ty g_XN [.ref k0, .int (nI cv), .ref s0] [(k0, .inr (1, [.int (nI es.length), .ref kf, .ref ko, .ref ka, .ref kb, .ref kt, .ref kl, .ref kp])), (kf, .inl (ty.2.1, 2000, .inr (.inl fF))), (ko, .inl (ty.1, 2000, .inl oF)), (ka, .inl (ty.1, 2000, .inl aF)), (kb, .inl (ty.1, 2000, .inl bF)), (kt, .inl (ty.1, 8, .inl tF)), (kl, .inl (ty.1, 4096, .inl sF)), (s0, .inr (2, [.ref sp, .ref sa, .ref sc])), (sp, .inl (ty.1, 11, .inl (zN p2))), (sa, .inl (ty.2.2, 10, .inl (zB al))), (sc, .inl (ty.2.2, 16, .inl (zB cs)))] 0 0 (g_uv (fun w => ∃ (fF2 : Nat → Int64) (oF2 aF2 bF2 sF2 : Nat → Int32), rowOk (mkC p2 al cs st cv es) fF2 oF2 aF2 bF2 sF2 ∧ w = [(k0, .inr (1, [.int (nI ((mkC p2 al cs st cv es).length)), .ref kf, .ref ko, .ref ka, .ref kb, .ref kt, .ref kl, .ref kp])), (kf, .inl (ty.2.1, 2000, .inr (.inl fF2))), (ko, .inl (ty.1, 2000, .inl oF2)), (ka, .inl (ty.1, 2000, .inl aF2)), (kb, .inl (ty.1, 2000, .inl bF2)), (kt, .inl (ty.1, 8, .inl tF)), (kl, .inl (ty.1, 4096, .inl sF2)), (s0, .inr (2, [.ref sp, .ref sa, .ref sc])), (sp, .inl (ty.1, 11, .inl (zN p2))), (sa, .inl (ty.2.2, 10, .inl (zB al))), (sc, .inl (ty.2.2, 16, .inl (zB cs)))])) := by
  refine g_ofUv (cc := cX2_makeCost) (nL := 5) (own := RX2) (by decide) rfl rfl g_XN_ok (Nat.le_of_ble_eq_true rfl) ?_
  intro p e s m args below meth c Q A C hA hX hin hR
  refine g_lv (lv' := [(0, .ref k0), (1, .int (nI cv)), (2, .ref s0)]) [0, 1, 2] rfl ?_
  have hl0 := hw.2.2.2
  refine g_iload_n C dX2_makeCost_0 1 rfl rfl ?_
  refine g_if_neN C dX2_makeCost_1 (tgt := 14) (by decide) (by omega) (fun h1 => ?_) (fun h1 => ?_)
  · skip
    have L14 : ∀ (n9 : Nat) (es1 : List Ent) (fF1 : Nat → Int64) (oF1 aF1 bF1 sF1 : Nat → Int32), 0 < n9 → (rowOk es1 fF1 oF1 aF1 bF1 sF1) → (es.length ≤ es1.length) → (es1 = mk0 cv es) → gG (g_IU A D s) p l e rm_t_X2_makeCost s m args below meth c Q 5 0 0 14 [(0, .ref k0), (1, .int (nI cv)), (2, .ref s0)] [] [(k0, .inr (1, [.int (nI es1.length), .ref kf, .ref ko, .ref ka, .ref kb, .ref kt, .ref kl, .ref kp])), (kf, .inl (ty.2.1, 2000, .inr (.inl fF1))), (ko, .inl (ty.1, 2000, .inl oF1)), (ka, .inl (ty.1, 2000, .inl aF1)), (kb, .inl (ty.1, 2000, .inl bF1)), (kt, .inl (ty.1, 8, .inl tF)), (kl, .inl (ty.1, 4096, .inl sF1)), (s0, .inr (2, [.ref sp, .ref sa, .ref sc])), (sp, .inl (ty.1, 11, .inl (zN p2))), (sa, .inl (ty.2.2, 10, .inl (zB al))), (sc, .inl (ty.2.2, 16, .inl (zB cs)))] := by
      intro n9
      induction n9 with
      | zero => intro es1 fF1 oF1 aF1 bF1 sF1 hn; exact absurd hn (Nat.not_lt_zero _)
      | succ n9 ih14 =>
        intro es1 fF1 oF1 aF1 bF1 sF1 hn14 hw1 hl1 hE1
        refine g_iload_n C dX2_makeCost_14 1 rfl rfl ?_
        refine g_aload_n C dX2_makeCost_15 2 rfl rfl ?_
        refine g_callPV C ⟨g_X0_ok, trivial⟩ (t_X3_priceOfConstants l D ty s0 sp sa sc p2 al cs) rfl gX2_makeCost_X3_priceOfConstants 0 (by decide +kernel) rfl ⟨rfl, rfl⟩ ⟨Nat.le_of_ble_eq_true rfl, Nat.le_of_ble_eq_true rfl⟩ (rest := [.int (nI cv)]) (q0 := 7) rfl rfl [7, 8, 9, 10] rfl (Nat.le_of_ble_eq_true rfl) dX2_makeCost_16 ⟨Nat.le_of_ble_eq_true rfl, Nat.le_of_ble_eq_true rfl⟩ rfl (g_ki (fun r hr => ?_))
        subst hr
        refine g_icmp_neN C dX2_makeCost_19 (tgt := 27) (by decide) (by omega) (by omega) (fun h19 => ?_) (fun h19 => ?_)
        · skip
          have L27 : ∀ (n9 : Nat) (es3 : List Ent) (fF3 : Nat → Int64) (oF3 aF3 bF3 sF3 : Nat → Int32), 0 < n9 → (rowOk es3 fF3 oF3 aF3 bF3 sF3) → (es.length ≤ es3.length) → (es3 = mk1 p2 cs cv (mk0 cv es)) → gG (g_IU A D s) p l e rm_t_X2_makeCost s m args below meth c Q 5 0 0 27 [(0, .ref k0), (1, .int (nI cv)), (2, .ref s0)] [] [(k0, .inr (1, [.int (nI es3.length), .ref kf, .ref ko, .ref ka, .ref kb, .ref kt, .ref kl, .ref kp])), (kf, .inl (ty.2.1, 2000, .inr (.inl fF3))), (ko, .inl (ty.1, 2000, .inl oF3)), (ka, .inl (ty.1, 2000, .inl aF3)), (kb, .inl (ty.1, 2000, .inl bF3)), (kt, .inl (ty.1, 8, .inl tF)), (kl, .inl (ty.1, 4096, .inl sF3)), (s0, .inr (2, [.ref sp, .ref sa, .ref sc])), (sp, .inl (ty.1, 11, .inl (zN p2))), (sa, .inl (ty.2.2, 10, .inl (zB al))), (sc, .inl (ty.2.2, 16, .inl (zB cs)))] := by
            intro n9
            induction n9 with
            | zero => intro es3 fF3 oF3 aF3 bF3 sF3 hn; exact absurd hn (Nat.not_lt_zero _)
            | succ n9 ih27 =>
              intro es3 fF3 oF3 aF3 bF3 sF3 hn27 hw3 hl3 hE3
              refine g_iconst C dX2_makeCost_27 (v := (nI 0)) (by decide) ?_
              refine g_istore_n C dX2_makeCost_28 rfl (by decide) (lv' := [(3, .int (nI 0)), (0, .ref k0), (1, .int (nI cv)), (2, .ref s0)]) rfl ?_
              have L29 : ∀ (n9 : Nat) (op : Nat) (es4 : List Ent) (fF4 : Nat → Int64) (oF4 aF4 bF4 sF4 : Nat → Int32), 10 - op < n9 → (op ≤ 10) → (rowOk es4 fF4 oF4 aF4 bF4 sF4) → (es.length ≤ es4.length) → (opsN p2 al st cv (10 - op) op es4 = mkC p2 al cs st cv es) → gG (g_IU A D s) p l e rm_t_X2_makeCost s m args below meth c Q 5 0 0 29 [(3, .int (nI op)), (0, .ref k0), (1, .int (nI cv)), (2, .ref s0)] [] [(k0, .inr (1, [.int (nI es4.length), .ref kf, .ref ko, .ref ka, .ref kb, .ref kt, .ref kl, .ref kp])), (kf, .inl (ty.2.1, 2000, .inr (.inl fF4))), (ko, .inl (ty.1, 2000, .inl oF4)), (ka, .inl (ty.1, 2000, .inl aF4)), (kb, .inl (ty.1, 2000, .inl bF4)), (kt, .inl (ty.1, 8, .inl tF)), (kl, .inl (ty.1, 4096, .inl sF4)), (s0, .inr (2, [.ref sp, .ref sa, .ref sc])), (sp, .inl (ty.1, 11, .inl (zN p2))), (sa, .inl (ty.2.2, 10, .inl (zB al))), (sc, .inl (ty.2.2, 16, .inl (zB cs)))] := by
                intro n9
                induction n9 with
                | zero => intro op es4 fF4 oF4 aF4 bF4 sF4 hn; exact absurd hn (Nat.not_lt_zero _)
                | succ n9 ih29 =>
                  intro op es4 fF4 oF4 aF4 bF4 sF4 hn29 ho hw4 hl4 hT
                  have hl4b := hw4.2.2.2
                  have hbt := bt_lt (al op)
                  refine g_iload_n C dX2_makeCost_29 0 rfl rfl ?_
                  refine g_bipush C dX2_makeCost_30 (v := (nI 10)) (by decide) ?_
                  refine g_icmp_geN C dX2_makeCost_32 (tgt := 92) (by decide) (by omega) (by omega) (fun h32 => ?_) (fun h32 => ?_)
                  · skip
                    have hE : es4 = mkC p2 al cs st cv es := by rw [← hT, show 10 - op = 0 by omega]; rfl
                    refine hR _ _ _ _ _ dX2_makeCost_92 ?_ (by omega) (by omega)
                    rw [← hE]
                    exact ⟨_, _, _, _, _, hw4, rfl⟩
                  · skip
                    have hpo := hp.1 op (by omega)
                    refine g_iload_n C dX2_makeCost_35 2 rfl rfl ?_
                    refine g_aload_n C dX2_makeCost_36 3 rfl rfl ?_
                    refine g_get C 7 rfl rfl 0 (by decide) (fun _ h => (List.mem_cons_of_mem _ (List.mem_append_left _ (List.mem_append_right _ h)))) 2 rfl rfl rfl dX2_makeCost_37 ?_
                    refine g_iload_n C dX2_makeCost_40 0 rfl rfl ?_
                    refine g_iald C (v := (nI (p2 op))) 8 rfl (by omega) (by omega) rfl dX2_makeCost_41 ?_
                    refine g_isub C dX2_makeCost_42 (v := (nI cv - nI (p2 op))) rfl ?_
                    refine g_istore C dX2_makeCost_43 (by decide) (lv' := [(4, .int (nI cv - nI (p2 op))), (3, .int (nI op)), (0, .ref k0), (1, .int (nI cv)), (2, .ref s0)]) rfl ?_
                    refine g_aload_n C dX2_makeCost_45 4 rfl rfl ?_
                    refine g_get C 7 rfl rfl 1 (by decide) (fun _ h => (List.mem_cons_of_mem _ (List.mem_append_left _ (List.mem_append_right _ h)))) 3 rfl rfl rfl dX2_makeCost_46 ?_
                    refine g_iload_n C dX2_makeCost_49 1 rfl rfl ?_
                    refine g_zald C (v := (nI ((al op).toNat))) 9 rfl (by omega) (by omega) rfl dX2_makeCost_50 ?_
                    refine g_if_eqN C dX2_makeCost_51 (tgt := 86) (by decide) (by omega) (fun h51 => ?_) (fun h51 => ?_)
                    · skip
                      have L86 : ∀ (n9 : Nat) (es5 : List Ent) (fF5 : Nat → Int64) (oF5 aF5 bF5 sF5 : Nat → Int32), 0 < n9 → (rowOk es5 fF5 oF5 aF5 bF5 sF5) → (es.length ≤ es5.length) → (opsN p2 al st cv (10 - (op + 1)) (op + 1) es5 = mkC p2 al cs st cv es) → gG (g_IU A D s) p l e rm_t_X2_makeCost s m args below meth c Q 5 0 0 86 [(3, .int (nI op)), (0, .ref k0), (1, .int (nI cv)), (2, .ref s0)] [] [(k0, .inr (1, [.int (nI es5.length), .ref kf, .ref ko, .ref ka, .ref kb, .ref kt, .ref kl, .ref kp])), (kf, .inl (ty.2.1, 2000, .inr (.inl fF5))), (ko, .inl (ty.1, 2000, .inl oF5)), (ka, .inl (ty.1, 2000, .inl aF5)), (kb, .inl (ty.1, 2000, .inl bF5)), (kt, .inl (ty.1, 8, .inl tF)), (kl, .inl (ty.1, 4096, .inl sF5)), (s0, .inr (2, [.ref sp, .ref sa, .ref sc])), (sp, .inl (ty.1, 11, .inl (zN p2))), (sa, .inl (ty.2.2, 10, .inl (zB al))), (sc, .inl (ty.2.2, 16, .inl (zB cs)))] := by
                        intro n9
                        induction n9 with
                        | zero => intro es5 fF5 oF5 aF5 bF5 sF5 hn; exact absurd hn (Nat.not_lt_zero _)
                        | succ n9 ih86 =>
                          intro es5 fF5 oF5 aF5 bF5 sF5 hn86 hw5 hl5 hT5
                          refine g_iinc C dX2_makeCost_86 0 rfl (v := (nI (op + 1))) (nI_1 op) (by decide) (lv' := [(3, .int (nI (op + 1))), (0, .ref k0), (1, .int (nI cv)), (2, .ref s0)]) rfl ?_
                          refine g_goto C dX2_makeCost_89 (tgt := 29) (by decide) ?_
                          exact ih29 (op + 1) es5 fF5 oF5 aF5 bF5 sF5 (by omega) (by omega) hw5 hl5 hT5
                      refine g_lv [1, 2, 3, 4] rfl ?_
                      exact L86 _ es4 fF4 oF4 aF4 bF4 sF4 (Nat.lt_succ_self _) hw4 (by omega) (by rw [show 10 - op = (10 - (op + 1)) + 1 by omega] at hT; rw [← hT]; refine congrArg (opsN p2 al st cv (10 - (op + 1)) (op + 1)) ?_; first | exact (opN_no (fun q => by omega)).symm | exact (opN_no (fun q => absurd q.1 (b_f h51))).symm | exact (opN_two ⟨b_t h51, by omega⟩ (by omega)).symm | exact (opN_one ⟨b_t h51, by omega⟩ (by omega)).symm)
                    · skip
                      refine g_iload C dX2_makeCost_54 0 rfl ?_
                      refine g_if_ge C dX2_makeCost_56 (tgt := 62) (by decide) (fun h56 => ?_) (fun h56 => ?_)
                      · skip
                        rw [pk_sub_toInt (by omega) (by omega)] at h56
                        rw [pk_sub (show p2 op ≤ cv by omega)]
                        refine g_iload_n C dX2_makeCost_62 1 rfl rfl ?_
                        refine g_callPSN C ⟨g_X0_ok, trivial⟩ (t_X5_hasTwoArguments l D ty (nI op)) rfl (hX.2.1 2 (by decide)) ggX2_makeCost_X5_hasTwoArguments 41 40 rfl rfl 1 (by decide +kernel) rfl ⟨rfl, rfl⟩ ⟨Nat.le_of_ble_eq_true rfl, Nat.le_of_ble_eq_true rfl⟩ (rest := []) [] rfl (Nat.le_of_ble_eq_true rfl) dX2_makeCost_63 ⟨Nat.le_of_ble_eq_true rfl, Nat.le_of_ble_eq_true rfl⟩ rfl (g_ki (fun r hr => ?_))
                        subst hr
                        have := bt_lt (inB (nI op) (nI 4) (nI 9))
                        refine g_if_eqN C dX2_makeCost_66 (tgt := 79) (by decide) (by omega) (fun h66 => ?_) (fun h66 => ?_)
                        · skip
                          have h4 := in_0 h66
                          have c0 := nI_toInt (n := 4) (by decide)
                          have c1 := nI_toInt (n := 9) (by decide)
                          have c2 := nI_toInt (n := op) (by omega)
                          refine g_aload_n C dX2_makeCost_79 2 rfl rfl ?_
                          refine g_iload_n C dX2_makeCost_80 1 rfl rfl ?_
                          refine g_iload C dX2_makeCost_81 0 rfl ?_
                          refine g_callUV C ⟨g_X0_ok, trivial⟩ (t_X2_addOfOne l D ty k0 kf ko ka kb kt kl kp es4 fF4 oF4 aF4 bF4 tF sF4 pF hw4 cv st (hs.len (by omega)) op (by omega) cv (cv - p2 op) (by omega)) rfl gX2_makeCost_X2_addOfOne 2 (by decide +kernel) rfl ⟨rfl, rfl⟩ ⟨Nat.le_of_ble_eq_true rfl, Nat.le_of_ble_eq_true rfl⟩ (rest := []) (q0 := 0) rfl rfl hA [0, 1, 2, 3, 4, 5, 6] [7, 8, 9, 10] rfl rfl rfl (wr := [(s0, .inr (2, [.ref sp, .ref sa, .ref sc])), (sp, .inl (ty.1, 11, .inl (zN p2))), (sa, .inl (ty.2.2, 10, .inl (zB al))), (sc, .inl (ty.2.2, 16, .inl (zB cs)))]) rfl rfl rfl (Nat.le_of_ble_eq_true rfl) dX2_makeCost_83 ⟨Nat.le_of_ble_eq_true rfl, Nat.le_of_ble_eq_true rfl⟩ rfl (g_kuv (fun w hr => ?_))
                          obtain ⟨fF83, oF83, aF83, bF83, sF83, hw83, rfl⟩ := hr
                          have hl83 := oneN_len (op := op) (c := cv) (n := st (cv - p2 op + 1) - st (cv - p2 op)) (i := st (cv - p2 op)) hw4.2.2.2
                          refine g_ws (ws' := [(k0, .inr (1, [.int (nI ((oneN op cv (st (cv - p2 op + 1) - st (cv - p2 op)) (st (cv - p2 op)) es4).length)), .ref kf, .ref ko, .ref ka, .ref kb, .ref kt, .ref kl, .ref kp])), (kf, .inl (ty.2.1, 2000, .inr (.inl fF83))), (ko, .inl (ty.1, 2000, .inl oF83)), (ka, .inl (ty.1, 2000, .inl aF83)), (kb, .inl (ty.1, 2000, .inl bF83)), (kt, .inl (ty.1, 8, .inl tF)), (kl, .inl (ty.1, 4096, .inl sF83)), (s0, .inr (2, [.ref sp, .ref sa, .ref sc])), (sp, .inl (ty.1, 11, .inl (zN p2))), (sa, .inl (ty.2.2, 10, .inl (zB al))), (sc, .inl (ty.2.2, 16, .inl (zB cs)))]) [4, 5, 6, 7, 8, 9, 10, 0, 1, 2, 3] rfl rfl rfl ?_
                          have L86 : ∀ (n9 : Nat) (es5 : List Ent) (fF5 : Nat → Int64) (oF5 aF5 bF5 sF5 : Nat → Int32), 0 < n9 → (rowOk es5 fF5 oF5 aF5 bF5 sF5) → (es.length ≤ es5.length) → (opsN p2 al st cv (10 - (op + 1)) (op + 1) es5 = mkC p2 al cs st cv es) → gG (g_IU A D s) p l e rm_t_X2_makeCost s m args below meth c Q 5 0 0 86 [(3, .int (nI op)), (0, .ref k0), (1, .int (nI cv)), (2, .ref s0)] [] [(k0, .inr (1, [.int (nI es5.length), .ref kf, .ref ko, .ref ka, .ref kb, .ref kt, .ref kl, .ref kp])), (kf, .inl (ty.2.1, 2000, .inr (.inl fF5))), (ko, .inl (ty.1, 2000, .inl oF5)), (ka, .inl (ty.1, 2000, .inl aF5)), (kb, .inl (ty.1, 2000, .inl bF5)), (kt, .inl (ty.1, 8, .inl tF)), (kl, .inl (ty.1, 4096, .inl sF5)), (s0, .inr (2, [.ref sp, .ref sa, .ref sc])), (sp, .inl (ty.1, 11, .inl (zN p2))), (sa, .inl (ty.2.2, 10, .inl (zB al))), (sc, .inl (ty.2.2, 16, .inl (zB cs)))] := by
                            intro n9
                            induction n9 with
                            | zero => intro es5 fF5 oF5 aF5 bF5 sF5 hn; exact absurd hn (Nat.not_lt_zero _)
                            | succ n9 ih86 =>
                              intro es5 fF5 oF5 aF5 bF5 sF5 hn86 hw5 hl5 hT5
                              refine g_iinc C dX2_makeCost_86 0 rfl (v := (nI (op + 1))) (nI_1 op) (by decide) (lv' := [(3, .int (nI (op + 1))), (0, .ref k0), (1, .int (nI cv)), (2, .ref s0)]) rfl ?_
                              refine g_goto C dX2_makeCost_89 (tgt := 29) (by decide) ?_
                              exact ih29 (op + 1) es5 fF5 oF5 aF5 bF5 sF5 (by omega) (by omega) hw5 hl5 hT5
                          refine g_lv [1, 2, 3, 4] rfl ?_
                          exact L86 _ (oneN op cv (st (cv - p2 op + 1) - st (cv - p2 op)) (st (cv - p2 op)) es4) fF83 oF83 aF83 bF83 sF83 (Nat.lt_succ_self _) hw83 (by omega) (by rw [show 10 - op = (10 - (op + 1)) + 1 by omega] at hT; rw [← hT]; refine congrArg (opsN p2 al st cv (10 - (op + 1)) (op + 1)) ?_; first | exact (opN_no (fun q => by omega)).symm | exact (opN_no (fun q => absurd q.1 (b_f h51))).symm | exact (opN_two ⟨b_t h51, by omega⟩ (by omega)).symm | exact (opN_one ⟨b_t h51, by omega⟩ (by omega)).symm)
                        · skip
                          have h4 := in_1 h66
                          have c0 := nI_toInt (n := 4) (by decide)
                          have c1 := nI_toInt (n := 9) (by decide)
                          have c2 := nI_toInt (n := op) (by omega)
                          refine g_aload_n C dX2_makeCost_69 2 rfl rfl ?_
                          refine g_iload_n C dX2_makeCost_70 1 rfl rfl ?_
                          refine g_iload C dX2_makeCost_71 0 rfl ?_
                          refine g_callUV C ⟨g_X0_ok, trivial⟩ (t_X2_addOfTwo l D ty k0 kf ko ka kb kt kl kp es4 fF4 oF4 aF4 bF4 tF sF4 pF hw4 cv st (hs.len (by omega)) op (by omega) cv (cv - p2 op) (by omega)) rfl gX2_makeCost_X2_addOfTwo 2 (by decide +kernel) rfl ⟨rfl, rfl⟩ ⟨Nat.le_of_ble_eq_true rfl, Nat.le_of_ble_eq_true rfl⟩ (rest := []) (q0 := 0) rfl rfl hA [0, 1, 2, 3, 4, 5, 6] [7, 8, 9, 10] rfl rfl rfl (wr := [(s0, .inr (2, [.ref sp, .ref sa, .ref sc])), (sp, .inl (ty.1, 11, .inl (zN p2))), (sa, .inl (ty.2.2, 10, .inl (zB al))), (sc, .inl (ty.2.2, 16, .inl (zB cs)))]) rfl rfl rfl (Nat.le_of_ble_eq_true rfl) dX2_makeCost_73 ⟨Nat.le_of_ble_eq_true rfl, Nat.le_of_ble_eq_true rfl⟩ rfl (g_kuv (fun w hr => ?_))
                          obtain ⟨fF73, oF73, aF73, bF73, sF73, hw73, rfl⟩ := hr
                          have hl73 := twoA_len (op := op) (c := cv) (st := st) (le := cv - p2 op) (n := cv - p2 op + 1) (a := 0) hw4.2.2.2
                          refine g_ws (ws' := [(k0, .inr (1, [.int (nI ((twoA op cv st (cv - p2 op) (cv - p2 op + 1) 0 es4).length)), .ref kf, .ref ko, .ref ka, .ref kb, .ref kt, .ref kl, .ref kp])), (kf, .inl (ty.2.1, 2000, .inr (.inl fF73))), (ko, .inl (ty.1, 2000, .inl oF73)), (ka, .inl (ty.1, 2000, .inl aF73)), (kb, .inl (ty.1, 2000, .inl bF73)), (kt, .inl (ty.1, 8, .inl tF)), (kl, .inl (ty.1, 4096, .inl sF73)), (s0, .inr (2, [.ref sp, .ref sa, .ref sc])), (sp, .inl (ty.1, 11, .inl (zN p2))), (sa, .inl (ty.2.2, 10, .inl (zB al))), (sc, .inl (ty.2.2, 16, .inl (zB cs)))]) [4, 5, 6, 7, 8, 9, 10, 0, 1, 2, 3] rfl rfl rfl ?_
                          refine g_goto C dX2_makeCost_76 (tgt := 86) (by decide) ?_
                          have L86 : ∀ (n9 : Nat) (es5 : List Ent) (fF5 : Nat → Int64) (oF5 aF5 bF5 sF5 : Nat → Int32), 0 < n9 → (rowOk es5 fF5 oF5 aF5 bF5 sF5) → (es.length ≤ es5.length) → (opsN p2 al st cv (10 - (op + 1)) (op + 1) es5 = mkC p2 al cs st cv es) → gG (g_IU A D s) p l e rm_t_X2_makeCost s m args below meth c Q 5 0 0 86 [(3, .int (nI op)), (0, .ref k0), (1, .int (nI cv)), (2, .ref s0)] [] [(k0, .inr (1, [.int (nI es5.length), .ref kf, .ref ko, .ref ka, .ref kb, .ref kt, .ref kl, .ref kp])), (kf, .inl (ty.2.1, 2000, .inr (.inl fF5))), (ko, .inl (ty.1, 2000, .inl oF5)), (ka, .inl (ty.1, 2000, .inl aF5)), (kb, .inl (ty.1, 2000, .inl bF5)), (kt, .inl (ty.1, 8, .inl tF)), (kl, .inl (ty.1, 4096, .inl sF5)), (s0, .inr (2, [.ref sp, .ref sa, .ref sc])), (sp, .inl (ty.1, 11, .inl (zN p2))), (sa, .inl (ty.2.2, 10, .inl (zB al))), (sc, .inl (ty.2.2, 16, .inl (zB cs)))] := by
                            intro n9
                            induction n9 with
                            | zero => intro es5 fF5 oF5 aF5 bF5 sF5 hn; exact absurd hn (Nat.not_lt_zero _)
                            | succ n9 ih86 =>
                              intro es5 fF5 oF5 aF5 bF5 sF5 hn86 hw5 hl5 hT5
                              refine g_iinc C dX2_makeCost_86 0 rfl (v := (nI (op + 1))) (nI_1 op) (by decide) (lv' := [(3, .int (nI (op + 1))), (0, .ref k0), (1, .int (nI cv)), (2, .ref s0)]) rfl ?_
                              refine g_goto C dX2_makeCost_89 (tgt := 29) (by decide) ?_
                              exact ih29 (op + 1) es5 fF5 oF5 aF5 bF5 sF5 (by omega) (by omega) hw5 hl5 hT5
                          refine g_lv [1, 2, 3, 4] rfl ?_
                          exact L86 _ (twoA op cv st (cv - p2 op) (cv - p2 op + 1) 0 es4) fF73 oF73 aF73 bF73 sF73 (Nat.lt_succ_self _) hw73 (by omega) (by rw [show 10 - op = (10 - (op + 1)) + 1 by omega] at hT; rw [← hT]; refine congrArg (opsN p2 al st cv (10 - (op + 1)) (op + 1)) ?_; first | exact (opN_no (fun q => by omega)).symm | exact (opN_no (fun q => absurd q.1 (b_f h51))).symm | exact (opN_two ⟨b_t h51, by omega⟩ (by omega)).symm | exact (opN_one ⟨b_t h51, by omega⟩ (by omega)).symm)
                      · skip
                        rw [pk_sub_toInt (by omega) (by omega)] at h56
                        refine g_goto C dX2_makeCost_59 (tgt := 86) (by decide) ?_
                        have L86 : ∀ (n9 : Nat) (es5 : List Ent) (fF5 : Nat → Int64) (oF5 aF5 bF5 sF5 : Nat → Int32), 0 < n9 → (rowOk es5 fF5 oF5 aF5 bF5 sF5) → (es.length ≤ es5.length) → (opsN p2 al st cv (10 - (op + 1)) (op + 1) es5 = mkC p2 al cs st cv es) → gG (g_IU A D s) p l e rm_t_X2_makeCost s m args below meth c Q 5 0 0 86 [(3, .int (nI op)), (0, .ref k0), (1, .int (nI cv)), (2, .ref s0)] [] [(k0, .inr (1, [.int (nI es5.length), .ref kf, .ref ko, .ref ka, .ref kb, .ref kt, .ref kl, .ref kp])), (kf, .inl (ty.2.1, 2000, .inr (.inl fF5))), (ko, .inl (ty.1, 2000, .inl oF5)), (ka, .inl (ty.1, 2000, .inl aF5)), (kb, .inl (ty.1, 2000, .inl bF5)), (kt, .inl (ty.1, 8, .inl tF)), (kl, .inl (ty.1, 4096, .inl sF5)), (s0, .inr (2, [.ref sp, .ref sa, .ref sc])), (sp, .inl (ty.1, 11, .inl (zN p2))), (sa, .inl (ty.2.2, 10, .inl (zB al))), (sc, .inl (ty.2.2, 16, .inl (zB cs)))] := by
                          intro n9
                          induction n9 with
                          | zero => intro es5 fF5 oF5 aF5 bF5 sF5 hn; exact absurd hn (Nat.not_lt_zero _)
                          | succ n9 ih86 =>
                            intro es5 fF5 oF5 aF5 bF5 sF5 hn86 hw5 hl5 hT5
                            refine g_iinc C dX2_makeCost_86 0 rfl (v := (nI (op + 1))) (nI_1 op) (by decide) (lv' := [(3, .int (nI (op + 1))), (0, .ref k0), (1, .int (nI cv)), (2, .ref s0)]) rfl ?_
                            refine g_goto C dX2_makeCost_89 (tgt := 29) (by decide) ?_
                            exact ih29 (op + 1) es5 fF5 oF5 aF5 bF5 sF5 (by omega) (by omega) hw5 hl5 hT5
                        refine g_lv [1, 2, 3, 4] rfl ?_
                        exact L86 _ es4 fF4 oF4 aF4 bF4 sF4 (Nat.lt_succ_self _) hw4 (by omega) (by rw [show 10 - op = (10 - (op + 1)) + 1 by omega] at hT; rw [← hT]; refine congrArg (opsN p2 al st cv (10 - (op + 1)) (op + 1)) ?_; first | exact (opN_no (fun q => by omega)).symm | exact (opN_no (fun q => absurd q.1 (b_f h51))).symm | exact (opN_two ⟨b_t h51, by omega⟩ (by omega)).symm | exact (opN_one ⟨b_t h51, by omega⟩ (by omega)).symm)
              exact L29 _ 0 es3 fF3 oF3 aF3 bF3 sF3 (Nat.lt_succ_self _) (by omega) hw3 hl3 (by rw [hE3]; rfl)
          exact L27 _ es1 fF1 oF1 aF1 bF1 sF1 (Nat.lt_succ_self _) hw1 (by omega) (by rw [hE1]; first | exact (if_pos (show cv = p2 10 by omega)).symm | exact (if_neg (show ¬ cv = p2 10 by omega)).symm)
        · skip
          refine g_aload_n C dX2_makeCost_22 0 rfl rfl ?_
          refine g_aload_n C dX2_makeCost_23 2 rfl rfl ?_
          refine g_callUV C ⟨g_X0_ok, trivial⟩ (t_X2_addConstants l D ty k0 kf ko ka kb kt kl kp es1 fF1 oF1 aF1 bF1 tF sF1 pF hw1 s0 sp sa sc p2 al cs cv) rfl gX2_makeCost_X2_addConstants 1 (by decide +kernel) rfl ⟨rfl, rfl⟩ ⟨Nat.le_of_ble_eq_true rfl, Nat.le_of_ble_eq_true rfl⟩ (rest := []) (q0 := 0) rfl rfl hA [0, 1, 2, 3, 4, 6, 7, 8, 9, 10] [5] rfl rfl rfl (wr := [(kt, .inl (ty.1, 8, .inl tF))]) rfl rfl rfl (Nat.le_of_ble_eq_true rfl) dX2_makeCost_24 ⟨Nat.le_of_ble_eq_true rfl, Nat.le_of_ble_eq_true rfl⟩ rfl (g_kuv (fun w hr => ?_))
          obtain ⟨fF24, oF24, aF24, bF24, sF24, hw24, rfl⟩ := hr
          have hl24 := coN_len (cs := cs) (c := cv) (n := 16) (v := 0) hw1.2.2.2
          refine g_ws (ws' := [(k0, .inr (1, [.int (nI ((coN cs cv 16 0 es1).length)), .ref kf, .ref ko, .ref ka, .ref kb, .ref kt, .ref kl, .ref kp])), (kf, .inl (ty.2.1, 2000, .inr (.inl fF24))), (ko, .inl (ty.1, 2000, .inl oF24)), (ka, .inl (ty.1, 2000, .inl aF24)), (kb, .inl (ty.1, 2000, .inl bF24)), (kt, .inl (ty.1, 8, .inl tF)), (kl, .inl (ty.1, 4096, .inl sF24)), (s0, .inr (2, [.ref sp, .ref sa, .ref sc])), (sp, .inl (ty.1, 11, .inl (zN p2))), (sa, .inl (ty.2.2, 10, .inl (zB al))), (sc, .inl (ty.2.2, 16, .inl (zB cs)))]) [1, 2, 3, 4, 5, 0, 6, 7, 8, 9, 10] rfl rfl rfl ?_
          have L27 : ∀ (n9 : Nat) (es3 : List Ent) (fF3 : Nat → Int64) (oF3 aF3 bF3 sF3 : Nat → Int32), 0 < n9 → (rowOk es3 fF3 oF3 aF3 bF3 sF3) → (es.length ≤ es3.length) → (es3 = mk1 p2 cs cv (mk0 cv es)) → gG (g_IU A D s) p l e rm_t_X2_makeCost s m args below meth c Q 5 0 0 27 [(0, .ref k0), (1, .int (nI cv)), (2, .ref s0)] [] [(k0, .inr (1, [.int (nI es3.length), .ref kf, .ref ko, .ref ka, .ref kb, .ref kt, .ref kl, .ref kp])), (kf, .inl (ty.2.1, 2000, .inr (.inl fF3))), (ko, .inl (ty.1, 2000, .inl oF3)), (ka, .inl (ty.1, 2000, .inl aF3)), (kb, .inl (ty.1, 2000, .inl bF3)), (kt, .inl (ty.1, 8, .inl tF)), (kl, .inl (ty.1, 4096, .inl sF3)), (s0, .inr (2, [.ref sp, .ref sa, .ref sc])), (sp, .inl (ty.1, 11, .inl (zN p2))), (sa, .inl (ty.2.2, 10, .inl (zB al))), (sc, .inl (ty.2.2, 16, .inl (zB cs)))] := by
            intro n9
            induction n9 with
            | zero => intro es3 fF3 oF3 aF3 bF3 sF3 hn; exact absurd hn (Nat.not_lt_zero _)
            | succ n9 ih27 =>
              intro es3 fF3 oF3 aF3 bF3 sF3 hn27 hw3 hl3 hE3
              refine g_iconst C dX2_makeCost_27 (v := (nI 0)) (by decide) ?_
              refine g_istore_n C dX2_makeCost_28 rfl (by decide) (lv' := [(3, .int (nI 0)), (0, .ref k0), (1, .int (nI cv)), (2, .ref s0)]) rfl ?_
              have L29 : ∀ (n9 : Nat) (op : Nat) (es4 : List Ent) (fF4 : Nat → Int64) (oF4 aF4 bF4 sF4 : Nat → Int32), 10 - op < n9 → (op ≤ 10) → (rowOk es4 fF4 oF4 aF4 bF4 sF4) → (es.length ≤ es4.length) → (opsN p2 al st cv (10 - op) op es4 = mkC p2 al cs st cv es) → gG (g_IU A D s) p l e rm_t_X2_makeCost s m args below meth c Q 5 0 0 29 [(3, .int (nI op)), (0, .ref k0), (1, .int (nI cv)), (2, .ref s0)] [] [(k0, .inr (1, [.int (nI es4.length), .ref kf, .ref ko, .ref ka, .ref kb, .ref kt, .ref kl, .ref kp])), (kf, .inl (ty.2.1, 2000, .inr (.inl fF4))), (ko, .inl (ty.1, 2000, .inl oF4)), (ka, .inl (ty.1, 2000, .inl aF4)), (kb, .inl (ty.1, 2000, .inl bF4)), (kt, .inl (ty.1, 8, .inl tF)), (kl, .inl (ty.1, 4096, .inl sF4)), (s0, .inr (2, [.ref sp, .ref sa, .ref sc])), (sp, .inl (ty.1, 11, .inl (zN p2))), (sa, .inl (ty.2.2, 10, .inl (zB al))), (sc, .inl (ty.2.2, 16, .inl (zB cs)))] := by
                intro n9
                induction n9 with
                | zero => intro op es4 fF4 oF4 aF4 bF4 sF4 hn; exact absurd hn (Nat.not_lt_zero _)
                | succ n9 ih29 =>
                  intro op es4 fF4 oF4 aF4 bF4 sF4 hn29 ho hw4 hl4 hT
                  have hl4b := hw4.2.2.2
                  have hbt := bt_lt (al op)
                  refine g_iload_n C dX2_makeCost_29 0 rfl rfl ?_
                  refine g_bipush C dX2_makeCost_30 (v := (nI 10)) (by decide) ?_
                  refine g_icmp_geN C dX2_makeCost_32 (tgt := 92) (by decide) (by omega) (by omega) (fun h32 => ?_) (fun h32 => ?_)
                  · skip
                    have hE : es4 = mkC p2 al cs st cv es := by rw [← hT, show 10 - op = 0 by omega]; rfl
                    refine hR _ _ _ _ _ dX2_makeCost_92 ?_ (by omega) (by omega)
                    rw [← hE]
                    exact ⟨_, _, _, _, _, hw4, rfl⟩
                  · skip
                    have hpo := hp.1 op (by omega)
                    refine g_iload_n C dX2_makeCost_35 2 rfl rfl ?_
                    refine g_aload_n C dX2_makeCost_36 3 rfl rfl ?_
                    refine g_get C 7 rfl rfl 0 (by decide) (fun _ h => (List.mem_cons_of_mem _ (List.mem_append_left _ (List.mem_append_right _ h)))) 2 rfl rfl rfl dX2_makeCost_37 ?_
                    refine g_iload_n C dX2_makeCost_40 0 rfl rfl ?_
                    refine g_iald C (v := (nI (p2 op))) 8 rfl (by omega) (by omega) rfl dX2_makeCost_41 ?_
                    refine g_isub C dX2_makeCost_42 (v := (nI cv - nI (p2 op))) rfl ?_
                    refine g_istore C dX2_makeCost_43 (by decide) (lv' := [(4, .int (nI cv - nI (p2 op))), (3, .int (nI op)), (0, .ref k0), (1, .int (nI cv)), (2, .ref s0)]) rfl ?_
                    refine g_aload_n C dX2_makeCost_45 4 rfl rfl ?_
                    refine g_get C 7 rfl rfl 1 (by decide) (fun _ h => (List.mem_cons_of_mem _ (List.mem_append_left _ (List.mem_append_right _ h)))) 3 rfl rfl rfl dX2_makeCost_46 ?_
                    refine g_iload_n C dX2_makeCost_49 1 rfl rfl ?_
                    refine g_zald C (v := (nI ((al op).toNat))) 9 rfl (by omega) (by omega) rfl dX2_makeCost_50 ?_
                    refine g_if_eqN C dX2_makeCost_51 (tgt := 86) (by decide) (by omega) (fun h51 => ?_) (fun h51 => ?_)
                    · skip
                      have L86 : ∀ (n9 : Nat) (es5 : List Ent) (fF5 : Nat → Int64) (oF5 aF5 bF5 sF5 : Nat → Int32), 0 < n9 → (rowOk es5 fF5 oF5 aF5 bF5 sF5) → (es.length ≤ es5.length) → (opsN p2 al st cv (10 - (op + 1)) (op + 1) es5 = mkC p2 al cs st cv es) → gG (g_IU A D s) p l e rm_t_X2_makeCost s m args below meth c Q 5 0 0 86 [(3, .int (nI op)), (0, .ref k0), (1, .int (nI cv)), (2, .ref s0)] [] [(k0, .inr (1, [.int (nI es5.length), .ref kf, .ref ko, .ref ka, .ref kb, .ref kt, .ref kl, .ref kp])), (kf, .inl (ty.2.1, 2000, .inr (.inl fF5))), (ko, .inl (ty.1, 2000, .inl oF5)), (ka, .inl (ty.1, 2000, .inl aF5)), (kb, .inl (ty.1, 2000, .inl bF5)), (kt, .inl (ty.1, 8, .inl tF)), (kl, .inl (ty.1, 4096, .inl sF5)), (s0, .inr (2, [.ref sp, .ref sa, .ref sc])), (sp, .inl (ty.1, 11, .inl (zN p2))), (sa, .inl (ty.2.2, 10, .inl (zB al))), (sc, .inl (ty.2.2, 16, .inl (zB cs)))] := by
                        intro n9
                        induction n9 with
                        | zero => intro es5 fF5 oF5 aF5 bF5 sF5 hn; exact absurd hn (Nat.not_lt_zero _)
                        | succ n9 ih86 =>
                          intro es5 fF5 oF5 aF5 bF5 sF5 hn86 hw5 hl5 hT5
                          refine g_iinc C dX2_makeCost_86 0 rfl (v := (nI (op + 1))) (nI_1 op) (by decide) (lv' := [(3, .int (nI (op + 1))), (0, .ref k0), (1, .int (nI cv)), (2, .ref s0)]) rfl ?_
                          refine g_goto C dX2_makeCost_89 (tgt := 29) (by decide) ?_
                          exact ih29 (op + 1) es5 fF5 oF5 aF5 bF5 sF5 (by omega) (by omega) hw5 hl5 hT5
                      refine g_lv [1, 2, 3, 4] rfl ?_
                      exact L86 _ es4 fF4 oF4 aF4 bF4 sF4 (Nat.lt_succ_self _) hw4 (by omega) (by rw [show 10 - op = (10 - (op + 1)) + 1 by omega] at hT; rw [← hT]; refine congrArg (opsN p2 al st cv (10 - (op + 1)) (op + 1)) ?_; first | exact (opN_no (fun q => by omega)).symm | exact (opN_no (fun q => absurd q.1 (b_f h51))).symm | exact (opN_two ⟨b_t h51, by omega⟩ (by omega)).symm | exact (opN_one ⟨b_t h51, by omega⟩ (by omega)).symm)
                    · skip
                      refine g_iload C dX2_makeCost_54 0 rfl ?_
                      refine g_if_ge C dX2_makeCost_56 (tgt := 62) (by decide) (fun h56 => ?_) (fun h56 => ?_)
                      · skip
                        rw [pk_sub_toInt (by omega) (by omega)] at h56
                        rw [pk_sub (show p2 op ≤ cv by omega)]
                        refine g_iload_n C dX2_makeCost_62 1 rfl rfl ?_
                        refine g_callPSN C ⟨g_X0_ok, trivial⟩ (t_X5_hasTwoArguments l D ty (nI op)) rfl (hX.2.1 2 (by decide)) ggX2_makeCost_X5_hasTwoArguments 41 40 rfl rfl 1 (by decide +kernel) rfl ⟨rfl, rfl⟩ ⟨Nat.le_of_ble_eq_true rfl, Nat.le_of_ble_eq_true rfl⟩ (rest := []) [] rfl (Nat.le_of_ble_eq_true rfl) dX2_makeCost_63 ⟨Nat.le_of_ble_eq_true rfl, Nat.le_of_ble_eq_true rfl⟩ rfl (g_ki (fun r hr => ?_))
                        subst hr
                        have := bt_lt (inB (nI op) (nI 4) (nI 9))
                        refine g_if_eqN C dX2_makeCost_66 (tgt := 79) (by decide) (by omega) (fun h66 => ?_) (fun h66 => ?_)
                        · skip
                          have h4 := in_0 h66
                          have c0 := nI_toInt (n := 4) (by decide)
                          have c1 := nI_toInt (n := 9) (by decide)
                          have c2 := nI_toInt (n := op) (by omega)
                          refine g_aload_n C dX2_makeCost_79 2 rfl rfl ?_
                          refine g_iload_n C dX2_makeCost_80 1 rfl rfl ?_
                          refine g_iload C dX2_makeCost_81 0 rfl ?_
                          refine g_callUV C ⟨g_X0_ok, trivial⟩ (t_X2_addOfOne l D ty k0 kf ko ka kb kt kl kp es4 fF4 oF4 aF4 bF4 tF sF4 pF hw4 cv st (hs.len (by omega)) op (by omega) cv (cv - p2 op) (by omega)) rfl gX2_makeCost_X2_addOfOne 2 (by decide +kernel) rfl ⟨rfl, rfl⟩ ⟨Nat.le_of_ble_eq_true rfl, Nat.le_of_ble_eq_true rfl⟩ (rest := []) (q0 := 0) rfl rfl hA [0, 1, 2, 3, 4, 5, 6] [7, 8, 9, 10] rfl rfl rfl (wr := [(s0, .inr (2, [.ref sp, .ref sa, .ref sc])), (sp, .inl (ty.1, 11, .inl (zN p2))), (sa, .inl (ty.2.2, 10, .inl (zB al))), (sc, .inl (ty.2.2, 16, .inl (zB cs)))]) rfl rfl rfl (Nat.le_of_ble_eq_true rfl) dX2_makeCost_83 ⟨Nat.le_of_ble_eq_true rfl, Nat.le_of_ble_eq_true rfl⟩ rfl (g_kuv (fun w hr => ?_))
                          obtain ⟨fF83, oF83, aF83, bF83, sF83, hw83, rfl⟩ := hr
                          have hl83 := oneN_len (op := op) (c := cv) (n := st (cv - p2 op + 1) - st (cv - p2 op)) (i := st (cv - p2 op)) hw4.2.2.2
                          refine g_ws (ws' := [(k0, .inr (1, [.int (nI ((oneN op cv (st (cv - p2 op + 1) - st (cv - p2 op)) (st (cv - p2 op)) es4).length)), .ref kf, .ref ko, .ref ka, .ref kb, .ref kt, .ref kl, .ref kp])), (kf, .inl (ty.2.1, 2000, .inr (.inl fF83))), (ko, .inl (ty.1, 2000, .inl oF83)), (ka, .inl (ty.1, 2000, .inl aF83)), (kb, .inl (ty.1, 2000, .inl bF83)), (kt, .inl (ty.1, 8, .inl tF)), (kl, .inl (ty.1, 4096, .inl sF83)), (s0, .inr (2, [.ref sp, .ref sa, .ref sc])), (sp, .inl (ty.1, 11, .inl (zN p2))), (sa, .inl (ty.2.2, 10, .inl (zB al))), (sc, .inl (ty.2.2, 16, .inl (zB cs)))]) [4, 5, 6, 7, 8, 9, 10, 0, 1, 2, 3] rfl rfl rfl ?_
                          have L86 : ∀ (n9 : Nat) (es5 : List Ent) (fF5 : Nat → Int64) (oF5 aF5 bF5 sF5 : Nat → Int32), 0 < n9 → (rowOk es5 fF5 oF5 aF5 bF5 sF5) → (es.length ≤ es5.length) → (opsN p2 al st cv (10 - (op + 1)) (op + 1) es5 = mkC p2 al cs st cv es) → gG (g_IU A D s) p l e rm_t_X2_makeCost s m args below meth c Q 5 0 0 86 [(3, .int (nI op)), (0, .ref k0), (1, .int (nI cv)), (2, .ref s0)] [] [(k0, .inr (1, [.int (nI es5.length), .ref kf, .ref ko, .ref ka, .ref kb, .ref kt, .ref kl, .ref kp])), (kf, .inl (ty.2.1, 2000, .inr (.inl fF5))), (ko, .inl (ty.1, 2000, .inl oF5)), (ka, .inl (ty.1, 2000, .inl aF5)), (kb, .inl (ty.1, 2000, .inl bF5)), (kt, .inl (ty.1, 8, .inl tF)), (kl, .inl (ty.1, 4096, .inl sF5)), (s0, .inr (2, [.ref sp, .ref sa, .ref sc])), (sp, .inl (ty.1, 11, .inl (zN p2))), (sa, .inl (ty.2.2, 10, .inl (zB al))), (sc, .inl (ty.2.2, 16, .inl (zB cs)))] := by
                            intro n9
                            induction n9 with
                            | zero => intro es5 fF5 oF5 aF5 bF5 sF5 hn; exact absurd hn (Nat.not_lt_zero _)
                            | succ n9 ih86 =>
                              intro es5 fF5 oF5 aF5 bF5 sF5 hn86 hw5 hl5 hT5
                              refine g_iinc C dX2_makeCost_86 0 rfl (v := (nI (op + 1))) (nI_1 op) (by decide) (lv' := [(3, .int (nI (op + 1))), (0, .ref k0), (1, .int (nI cv)), (2, .ref s0)]) rfl ?_
                              refine g_goto C dX2_makeCost_89 (tgt := 29) (by decide) ?_
                              exact ih29 (op + 1) es5 fF5 oF5 aF5 bF5 sF5 (by omega) (by omega) hw5 hl5 hT5
                          refine g_lv [1, 2, 3, 4] rfl ?_
                          exact L86 _ (oneN op cv (st (cv - p2 op + 1) - st (cv - p2 op)) (st (cv - p2 op)) es4) fF83 oF83 aF83 bF83 sF83 (Nat.lt_succ_self _) hw83 (by omega) (by rw [show 10 - op = (10 - (op + 1)) + 1 by omega] at hT; rw [← hT]; refine congrArg (opsN p2 al st cv (10 - (op + 1)) (op + 1)) ?_; first | exact (opN_no (fun q => by omega)).symm | exact (opN_no (fun q => absurd q.1 (b_f h51))).symm | exact (opN_two ⟨b_t h51, by omega⟩ (by omega)).symm | exact (opN_one ⟨b_t h51, by omega⟩ (by omega)).symm)
                        · skip
                          have h4 := in_1 h66
                          have c0 := nI_toInt (n := 4) (by decide)
                          have c1 := nI_toInt (n := 9) (by decide)
                          have c2 := nI_toInt (n := op) (by omega)
                          refine g_aload_n C dX2_makeCost_69 2 rfl rfl ?_
                          refine g_iload_n C dX2_makeCost_70 1 rfl rfl ?_
                          refine g_iload C dX2_makeCost_71 0 rfl ?_
                          refine g_callUV C ⟨g_X0_ok, trivial⟩ (t_X2_addOfTwo l D ty k0 kf ko ka kb kt kl kp es4 fF4 oF4 aF4 bF4 tF sF4 pF hw4 cv st (hs.len (by omega)) op (by omega) cv (cv - p2 op) (by omega)) rfl gX2_makeCost_X2_addOfTwo 2 (by decide +kernel) rfl ⟨rfl, rfl⟩ ⟨Nat.le_of_ble_eq_true rfl, Nat.le_of_ble_eq_true rfl⟩ (rest := []) (q0 := 0) rfl rfl hA [0, 1, 2, 3, 4, 5, 6] [7, 8, 9, 10] rfl rfl rfl (wr := [(s0, .inr (2, [.ref sp, .ref sa, .ref sc])), (sp, .inl (ty.1, 11, .inl (zN p2))), (sa, .inl (ty.2.2, 10, .inl (zB al))), (sc, .inl (ty.2.2, 16, .inl (zB cs)))]) rfl rfl rfl (Nat.le_of_ble_eq_true rfl) dX2_makeCost_73 ⟨Nat.le_of_ble_eq_true rfl, Nat.le_of_ble_eq_true rfl⟩ rfl (g_kuv (fun w hr => ?_))
                          obtain ⟨fF73, oF73, aF73, bF73, sF73, hw73, rfl⟩ := hr
                          have hl73 := twoA_len (op := op) (c := cv) (st := st) (le := cv - p2 op) (n := cv - p2 op + 1) (a := 0) hw4.2.2.2
                          refine g_ws (ws' := [(k0, .inr (1, [.int (nI ((twoA op cv st (cv - p2 op) (cv - p2 op + 1) 0 es4).length)), .ref kf, .ref ko, .ref ka, .ref kb, .ref kt, .ref kl, .ref kp])), (kf, .inl (ty.2.1, 2000, .inr (.inl fF73))), (ko, .inl (ty.1, 2000, .inl oF73)), (ka, .inl (ty.1, 2000, .inl aF73)), (kb, .inl (ty.1, 2000, .inl bF73)), (kt, .inl (ty.1, 8, .inl tF)), (kl, .inl (ty.1, 4096, .inl sF73)), (s0, .inr (2, [.ref sp, .ref sa, .ref sc])), (sp, .inl (ty.1, 11, .inl (zN p2))), (sa, .inl (ty.2.2, 10, .inl (zB al))), (sc, .inl (ty.2.2, 16, .inl (zB cs)))]) [4, 5, 6, 7, 8, 9, 10, 0, 1, 2, 3] rfl rfl rfl ?_
                          refine g_goto C dX2_makeCost_76 (tgt := 86) (by decide) ?_
                          have L86 : ∀ (n9 : Nat) (es5 : List Ent) (fF5 : Nat → Int64) (oF5 aF5 bF5 sF5 : Nat → Int32), 0 < n9 → (rowOk es5 fF5 oF5 aF5 bF5 sF5) → (es.length ≤ es5.length) → (opsN p2 al st cv (10 - (op + 1)) (op + 1) es5 = mkC p2 al cs st cv es) → gG (g_IU A D s) p l e rm_t_X2_makeCost s m args below meth c Q 5 0 0 86 [(3, .int (nI op)), (0, .ref k0), (1, .int (nI cv)), (2, .ref s0)] [] [(k0, .inr (1, [.int (nI es5.length), .ref kf, .ref ko, .ref ka, .ref kb, .ref kt, .ref kl, .ref kp])), (kf, .inl (ty.2.1, 2000, .inr (.inl fF5))), (ko, .inl (ty.1, 2000, .inl oF5)), (ka, .inl (ty.1, 2000, .inl aF5)), (kb, .inl (ty.1, 2000, .inl bF5)), (kt, .inl (ty.1, 8, .inl tF)), (kl, .inl (ty.1, 4096, .inl sF5)), (s0, .inr (2, [.ref sp, .ref sa, .ref sc])), (sp, .inl (ty.1, 11, .inl (zN p2))), (sa, .inl (ty.2.2, 10, .inl (zB al))), (sc, .inl (ty.2.2, 16, .inl (zB cs)))] := by
                            intro n9
                            induction n9 with
                            | zero => intro es5 fF5 oF5 aF5 bF5 sF5 hn; exact absurd hn (Nat.not_lt_zero _)
                            | succ n9 ih86 =>
                              intro es5 fF5 oF5 aF5 bF5 sF5 hn86 hw5 hl5 hT5
                              refine g_iinc C dX2_makeCost_86 0 rfl (v := (nI (op + 1))) (nI_1 op) (by decide) (lv' := [(3, .int (nI (op + 1))), (0, .ref k0), (1, .int (nI cv)), (2, .ref s0)]) rfl ?_
                              refine g_goto C dX2_makeCost_89 (tgt := 29) (by decide) ?_
                              exact ih29 (op + 1) es5 fF5 oF5 aF5 bF5 sF5 (by omega) (by omega) hw5 hl5 hT5
                          refine g_lv [1, 2, 3, 4] rfl ?_
                          exact L86 _ (twoA op cv st (cv - p2 op) (cv - p2 op + 1) 0 es4) fF73 oF73 aF73 bF73 sF73 (Nat.lt_succ_self _) hw73 (by omega) (by rw [show 10 - op = (10 - (op + 1)) + 1 by omega] at hT; rw [← hT]; refine congrArg (opsN p2 al st cv (10 - (op + 1)) (op + 1)) ?_; first | exact (opN_no (fun q => by omega)).symm | exact (opN_no (fun q => absurd q.1 (b_f h51))).symm | exact (opN_two ⟨b_t h51, by omega⟩ (by omega)).symm | exact (opN_one ⟨b_t h51, by omega⟩ (by omega)).symm)
                      · skip
                        rw [pk_sub_toInt (by omega) (by omega)] at h56
                        refine g_goto C dX2_makeCost_59 (tgt := 86) (by decide) ?_
                        have L86 : ∀ (n9 : Nat) (es5 : List Ent) (fF5 : Nat → Int64) (oF5 aF5 bF5 sF5 : Nat → Int32), 0 < n9 → (rowOk es5 fF5 oF5 aF5 bF5 sF5) → (es.length ≤ es5.length) → (opsN p2 al st cv (10 - (op + 1)) (op + 1) es5 = mkC p2 al cs st cv es) → gG (g_IU A D s) p l e rm_t_X2_makeCost s m args below meth c Q 5 0 0 86 [(3, .int (nI op)), (0, .ref k0), (1, .int (nI cv)), (2, .ref s0)] [] [(k0, .inr (1, [.int (nI es5.length), .ref kf, .ref ko, .ref ka, .ref kb, .ref kt, .ref kl, .ref kp])), (kf, .inl (ty.2.1, 2000, .inr (.inl fF5))), (ko, .inl (ty.1, 2000, .inl oF5)), (ka, .inl (ty.1, 2000, .inl aF5)), (kb, .inl (ty.1, 2000, .inl bF5)), (kt, .inl (ty.1, 8, .inl tF)), (kl, .inl (ty.1, 4096, .inl sF5)), (s0, .inr (2, [.ref sp, .ref sa, .ref sc])), (sp, .inl (ty.1, 11, .inl (zN p2))), (sa, .inl (ty.2.2, 10, .inl (zB al))), (sc, .inl (ty.2.2, 16, .inl (zB cs)))] := by
                          intro n9
                          induction n9 with
                          | zero => intro es5 fF5 oF5 aF5 bF5 sF5 hn; exact absurd hn (Nat.not_lt_zero _)
                          | succ n9 ih86 =>
                            intro es5 fF5 oF5 aF5 bF5 sF5 hn86 hw5 hl5 hT5
                            refine g_iinc C dX2_makeCost_86 0 rfl (v := (nI (op + 1))) (nI_1 op) (by decide) (lv' := [(3, .int (nI (op + 1))), (0, .ref k0), (1, .int (nI cv)), (2, .ref s0)]) rfl ?_
                            refine g_goto C dX2_makeCost_89 (tgt := 29) (by decide) ?_
                            exact ih29 (op + 1) es5 fF5 oF5 aF5 bF5 sF5 (by omega) (by omega) hw5 hl5 hT5
                        refine g_lv [1, 2, 3, 4] rfl ?_
                        exact L86 _ es4 fF4 oF4 aF4 bF4 sF4 (Nat.lt_succ_self _) hw4 (by omega) (by rw [show 10 - op = (10 - (op + 1)) + 1 by omega] at hT; rw [← hT]; refine congrArg (opsN p2 al st cv (10 - (op + 1)) (op + 1)) ?_; first | exact (opN_no (fun q => by omega)).symm | exact (opN_no (fun q => absurd q.1 (b_f h51))).symm | exact (opN_two ⟨b_t h51, by omega⟩ (by omega)).symm | exact (opN_one ⟨b_t h51, by omega⟩ (by omega)).symm)
              exact L29 _ 0 es3 fF3 oF3 aF3 bF3 sF3 (Nat.lt_succ_self _) (by omega) hw3 hl3 (by rw [hE3]; rfl)
          exact L27 _ (coN cs cv 16 0 es1) fF24 oF24 aF24 bF24 sF24 (Nat.lt_succ_self _) hw24 (by omega) (by rw [hE1]; first | exact (if_pos (show cv = p2 10 by omega)).symm | exact (if_neg (show ¬ cv = p2 10 by omega)).symm)
    exact L14 _ es fF oF aF bF sF (Nat.lt_succ_self _) hw (by omega) (by first | exact (if_pos (show cv = 0 by omega)).symm | exact (if_neg (show ¬ cv = 0 by omega)).symm)
  · skip
    refine g_aload_n C dX2_makeCost_4 0 rfl rfl ?_
    refine g_ldc2 C (v := (-81985529216486896)) 1 rfl dX2_makeCost_5 ?_
    refine g_iconst C dX2_makeCost_8 (v := (-1)) (by decide) ?_
    refine g_iconst C dX2_makeCost_9 (v := (-1)) (by decide) ?_
    refine g_iconst C dX2_makeCost_10 (v := (-1)) (by decide) ?_
    refine g_callUV C ⟨g_X0_ok, trivial⟩ (t_X2_add l D ty k0 kf ko ka kb kt kl kp es fF oF aF bF tF sF pF hw (-81985529216486896) 0 (-1) (-1) (-1)) rfl gX2_makeCost_X2_add 4 (by decide +kernel) rfl ⟨rfl, rfl⟩ ⟨Nat.le_of_ble_eq_true rfl, Nat.le_of_ble_eq_true rfl⟩ (rest := []) (q0 := 0) rfl rfl hA [0, 1, 2, 3, 4, 6] [5, 7, 8, 9, 10] rfl rfl rfl (wr := [(kt, .inl (ty.1, 8, .inl tF)), (s0, .inr (2, [.ref sp, .ref sa, .ref sc])), (sp, .inl (ty.1, 11, .inl (zN p2))), (sa, .inl (ty.2.2, 10, .inl (zB al))), (sc, .inl (ty.2.2, 16, .inl (zB cs)))]) rfl rfl rfl (Nat.le_of_ble_eq_true rfl) dX2_makeCost_11 ⟨Nat.le_of_ble_eq_true rfl, Nat.le_of_ble_eq_true rfl⟩ rfl (g_kuv (fun w hr => ?_))
    obtain ⟨fF11, oF11, aF11, bF11, sF11, hw11, rfl⟩ := hr
    have hl11 := addE_len (f := (-81985529216486896)) (c := 0) (o := (-1)) (a := (-1)) (b := (-1)) hw.2.2.2
    refine g_ws (ws' := [(k0, .inr (1, [.int (nI ((addE (-81985529216486896) 0 (-1) (-1) (-1) es).length)), .ref kf, .ref ko, .ref ka, .ref kb, .ref kt, .ref kl, .ref kp])), (kf, .inl (ty.2.1, 2000, .inr (.inl fF11))), (ko, .inl (ty.1, 2000, .inl oF11)), (ka, .inl (ty.1, 2000, .inl aF11)), (kb, .inl (ty.1, 2000, .inl bF11)), (kt, .inl (ty.1, 8, .inl tF)), (kl, .inl (ty.1, 4096, .inl sF11)), (s0, .inr (2, [.ref sp, .ref sa, .ref sc])), (sp, .inl (ty.1, 11, .inl (zN p2))), (sa, .inl (ty.2.2, 10, .inl (zB al))), (sc, .inl (ty.2.2, 16, .inl (zB cs)))]) [5, 6, 7, 8, 9, 0, 10, 1, 2, 3, 4] rfl rfl rfl ?_
    have L14 : ∀ (n9 : Nat) (es1 : List Ent) (fF1 : Nat → Int64) (oF1 aF1 bF1 sF1 : Nat → Int32), 0 < n9 → (rowOk es1 fF1 oF1 aF1 bF1 sF1) → (es.length ≤ es1.length) → (es1 = mk0 cv es) → gG (g_IU A D s) p l e rm_t_X2_makeCost s m args below meth c Q 5 0 0 14 [(0, .ref k0), (1, .int (nI cv)), (2, .ref s0)] [] [(k0, .inr (1, [.int (nI es1.length), .ref kf, .ref ko, .ref ka, .ref kb, .ref kt, .ref kl, .ref kp])), (kf, .inl (ty.2.1, 2000, .inr (.inl fF1))), (ko, .inl (ty.1, 2000, .inl oF1)), (ka, .inl (ty.1, 2000, .inl aF1)), (kb, .inl (ty.1, 2000, .inl bF1)), (kt, .inl (ty.1, 8, .inl tF)), (kl, .inl (ty.1, 4096, .inl sF1)), (s0, .inr (2, [.ref sp, .ref sa, .ref sc])), (sp, .inl (ty.1, 11, .inl (zN p2))), (sa, .inl (ty.2.2, 10, .inl (zB al))), (sc, .inl (ty.2.2, 16, .inl (zB cs)))] := by
      intro n9
      induction n9 with
      | zero => intro es1 fF1 oF1 aF1 bF1 sF1 hn; exact absurd hn (Nat.not_lt_zero _)
      | succ n9 ih14 =>
        intro es1 fF1 oF1 aF1 bF1 sF1 hn14 hw1 hl1 hE1
        refine g_iload_n C dX2_makeCost_14 1 rfl rfl ?_
        refine g_aload_n C dX2_makeCost_15 2 rfl rfl ?_
        refine g_callPV C ⟨g_X0_ok, trivial⟩ (t_X3_priceOfConstants l D ty s0 sp sa sc p2 al cs) rfl gX2_makeCost_X3_priceOfConstants 0 (by decide +kernel) rfl ⟨rfl, rfl⟩ ⟨Nat.le_of_ble_eq_true rfl, Nat.le_of_ble_eq_true rfl⟩ (rest := [.int (nI cv)]) (q0 := 7) rfl rfl [7, 8, 9, 10] rfl (Nat.le_of_ble_eq_true rfl) dX2_makeCost_16 ⟨Nat.le_of_ble_eq_true rfl, Nat.le_of_ble_eq_true rfl⟩ rfl (g_ki (fun r hr => ?_))
        subst hr
        refine g_icmp_neN C dX2_makeCost_19 (tgt := 27) (by decide) (by omega) (by omega) (fun h19 => ?_) (fun h19 => ?_)
        · skip
          have L27 : ∀ (n9 : Nat) (es3 : List Ent) (fF3 : Nat → Int64) (oF3 aF3 bF3 sF3 : Nat → Int32), 0 < n9 → (rowOk es3 fF3 oF3 aF3 bF3 sF3) → (es.length ≤ es3.length) → (es3 = mk1 p2 cs cv (mk0 cv es)) → gG (g_IU A D s) p l e rm_t_X2_makeCost s m args below meth c Q 5 0 0 27 [(0, .ref k0), (1, .int (nI cv)), (2, .ref s0)] [] [(k0, .inr (1, [.int (nI es3.length), .ref kf, .ref ko, .ref ka, .ref kb, .ref kt, .ref kl, .ref kp])), (kf, .inl (ty.2.1, 2000, .inr (.inl fF3))), (ko, .inl (ty.1, 2000, .inl oF3)), (ka, .inl (ty.1, 2000, .inl aF3)), (kb, .inl (ty.1, 2000, .inl bF3)), (kt, .inl (ty.1, 8, .inl tF)), (kl, .inl (ty.1, 4096, .inl sF3)), (s0, .inr (2, [.ref sp, .ref sa, .ref sc])), (sp, .inl (ty.1, 11, .inl (zN p2))), (sa, .inl (ty.2.2, 10, .inl (zB al))), (sc, .inl (ty.2.2, 16, .inl (zB cs)))] := by
            intro n9
            induction n9 with
            | zero => intro es3 fF3 oF3 aF3 bF3 sF3 hn; exact absurd hn (Nat.not_lt_zero _)
            | succ n9 ih27 =>
              intro es3 fF3 oF3 aF3 bF3 sF3 hn27 hw3 hl3 hE3
              refine g_iconst C dX2_makeCost_27 (v := (nI 0)) (by decide) ?_
              refine g_istore_n C dX2_makeCost_28 rfl (by decide) (lv' := [(3, .int (nI 0)), (0, .ref k0), (1, .int (nI cv)), (2, .ref s0)]) rfl ?_
              have L29 : ∀ (n9 : Nat) (op : Nat) (es4 : List Ent) (fF4 : Nat → Int64) (oF4 aF4 bF4 sF4 : Nat → Int32), 10 - op < n9 → (op ≤ 10) → (rowOk es4 fF4 oF4 aF4 bF4 sF4) → (es.length ≤ es4.length) → (opsN p2 al st cv (10 - op) op es4 = mkC p2 al cs st cv es) → gG (g_IU A D s) p l e rm_t_X2_makeCost s m args below meth c Q 5 0 0 29 [(3, .int (nI op)), (0, .ref k0), (1, .int (nI cv)), (2, .ref s0)] [] [(k0, .inr (1, [.int (nI es4.length), .ref kf, .ref ko, .ref ka, .ref kb, .ref kt, .ref kl, .ref kp])), (kf, .inl (ty.2.1, 2000, .inr (.inl fF4))), (ko, .inl (ty.1, 2000, .inl oF4)), (ka, .inl (ty.1, 2000, .inl aF4)), (kb, .inl (ty.1, 2000, .inl bF4)), (kt, .inl (ty.1, 8, .inl tF)), (kl, .inl (ty.1, 4096, .inl sF4)), (s0, .inr (2, [.ref sp, .ref sa, .ref sc])), (sp, .inl (ty.1, 11, .inl (zN p2))), (sa, .inl (ty.2.2, 10, .inl (zB al))), (sc, .inl (ty.2.2, 16, .inl (zB cs)))] := by
                intro n9
                induction n9 with
                | zero => intro op es4 fF4 oF4 aF4 bF4 sF4 hn; exact absurd hn (Nat.not_lt_zero _)
                | succ n9 ih29 =>
                  intro op es4 fF4 oF4 aF4 bF4 sF4 hn29 ho hw4 hl4 hT
                  have hl4b := hw4.2.2.2
                  have hbt := bt_lt (al op)
                  refine g_iload_n C dX2_makeCost_29 0 rfl rfl ?_
                  refine g_bipush C dX2_makeCost_30 (v := (nI 10)) (by decide) ?_
                  refine g_icmp_geN C dX2_makeCost_32 (tgt := 92) (by decide) (by omega) (by omega) (fun h32 => ?_) (fun h32 => ?_)
                  · skip
                    have hE : es4 = mkC p2 al cs st cv es := by rw [← hT, show 10 - op = 0 by omega]; rfl
                    refine hR _ _ _ _ _ dX2_makeCost_92 ?_ (by omega) (by omega)
                    rw [← hE]
                    exact ⟨_, _, _, _, _, hw4, rfl⟩
                  · skip
                    have hpo := hp.1 op (by omega)
                    refine g_iload_n C dX2_makeCost_35 2 rfl rfl ?_
                    refine g_aload_n C dX2_makeCost_36 3 rfl rfl ?_
                    refine g_get C 7 rfl rfl 0 (by decide) (fun _ h => (List.mem_cons_of_mem _ (List.mem_append_left _ (List.mem_append_right _ h)))) 2 rfl rfl rfl dX2_makeCost_37 ?_
                    refine g_iload_n C dX2_makeCost_40 0 rfl rfl ?_
                    refine g_iald C (v := (nI (p2 op))) 8 rfl (by omega) (by omega) rfl dX2_makeCost_41 ?_
                    refine g_isub C dX2_makeCost_42 (v := (nI cv - nI (p2 op))) rfl ?_
                    refine g_istore C dX2_makeCost_43 (by decide) (lv' := [(4, .int (nI cv - nI (p2 op))), (3, .int (nI op)), (0, .ref k0), (1, .int (nI cv)), (2, .ref s0)]) rfl ?_
                    refine g_aload_n C dX2_makeCost_45 4 rfl rfl ?_
                    refine g_get C 7 rfl rfl 1 (by decide) (fun _ h => (List.mem_cons_of_mem _ (List.mem_append_left _ (List.mem_append_right _ h)))) 3 rfl rfl rfl dX2_makeCost_46 ?_
                    refine g_iload_n C dX2_makeCost_49 1 rfl rfl ?_
                    refine g_zald C (v := (nI ((al op).toNat))) 9 rfl (by omega) (by omega) rfl dX2_makeCost_50 ?_
                    refine g_if_eqN C dX2_makeCost_51 (tgt := 86) (by decide) (by omega) (fun h51 => ?_) (fun h51 => ?_)
                    · skip
                      have L86 : ∀ (n9 : Nat) (es5 : List Ent) (fF5 : Nat → Int64) (oF5 aF5 bF5 sF5 : Nat → Int32), 0 < n9 → (rowOk es5 fF5 oF5 aF5 bF5 sF5) → (es.length ≤ es5.length) → (opsN p2 al st cv (10 - (op + 1)) (op + 1) es5 = mkC p2 al cs st cv es) → gG (g_IU A D s) p l e rm_t_X2_makeCost s m args below meth c Q 5 0 0 86 [(3, .int (nI op)), (0, .ref k0), (1, .int (nI cv)), (2, .ref s0)] [] [(k0, .inr (1, [.int (nI es5.length), .ref kf, .ref ko, .ref ka, .ref kb, .ref kt, .ref kl, .ref kp])), (kf, .inl (ty.2.1, 2000, .inr (.inl fF5))), (ko, .inl (ty.1, 2000, .inl oF5)), (ka, .inl (ty.1, 2000, .inl aF5)), (kb, .inl (ty.1, 2000, .inl bF5)), (kt, .inl (ty.1, 8, .inl tF)), (kl, .inl (ty.1, 4096, .inl sF5)), (s0, .inr (2, [.ref sp, .ref sa, .ref sc])), (sp, .inl (ty.1, 11, .inl (zN p2))), (sa, .inl (ty.2.2, 10, .inl (zB al))), (sc, .inl (ty.2.2, 16, .inl (zB cs)))] := by
                        intro n9
                        induction n9 with
                        | zero => intro es5 fF5 oF5 aF5 bF5 sF5 hn; exact absurd hn (Nat.not_lt_zero _)
                        | succ n9 ih86 =>
                          intro es5 fF5 oF5 aF5 bF5 sF5 hn86 hw5 hl5 hT5
                          refine g_iinc C dX2_makeCost_86 0 rfl (v := (nI (op + 1))) (nI_1 op) (by decide) (lv' := [(3, .int (nI (op + 1))), (0, .ref k0), (1, .int (nI cv)), (2, .ref s0)]) rfl ?_
                          refine g_goto C dX2_makeCost_89 (tgt := 29) (by decide) ?_
                          exact ih29 (op + 1) es5 fF5 oF5 aF5 bF5 sF5 (by omega) (by omega) hw5 hl5 hT5
                      refine g_lv [1, 2, 3, 4] rfl ?_
                      exact L86 _ es4 fF4 oF4 aF4 bF4 sF4 (Nat.lt_succ_self _) hw4 (by omega) (by rw [show 10 - op = (10 - (op + 1)) + 1 by omega] at hT; rw [← hT]; refine congrArg (opsN p2 al st cv (10 - (op + 1)) (op + 1)) ?_; first | exact (opN_no (fun q => by omega)).symm | exact (opN_no (fun q => absurd q.1 (b_f h51))).symm | exact (opN_two ⟨b_t h51, by omega⟩ (by omega)).symm | exact (opN_one ⟨b_t h51, by omega⟩ (by omega)).symm)
                    · skip
                      refine g_iload C dX2_makeCost_54 0 rfl ?_
                      refine g_if_ge C dX2_makeCost_56 (tgt := 62) (by decide) (fun h56 => ?_) (fun h56 => ?_)
                      · skip
                        rw [pk_sub_toInt (by omega) (by omega)] at h56
                        rw [pk_sub (show p2 op ≤ cv by omega)]
                        refine g_iload_n C dX2_makeCost_62 1 rfl rfl ?_
                        refine g_callPSN C ⟨g_X0_ok, trivial⟩ (t_X5_hasTwoArguments l D ty (nI op)) rfl (hX.2.1 2 (by decide)) ggX2_makeCost_X5_hasTwoArguments 41 40 rfl rfl 1 (by decide +kernel) rfl ⟨rfl, rfl⟩ ⟨Nat.le_of_ble_eq_true rfl, Nat.le_of_ble_eq_true rfl⟩ (rest := []) [] rfl (Nat.le_of_ble_eq_true rfl) dX2_makeCost_63 ⟨Nat.le_of_ble_eq_true rfl, Nat.le_of_ble_eq_true rfl⟩ rfl (g_ki (fun r hr => ?_))
                        subst hr
                        have := bt_lt (inB (nI op) (nI 4) (nI 9))
                        refine g_if_eqN C dX2_makeCost_66 (tgt := 79) (by decide) (by omega) (fun h66 => ?_) (fun h66 => ?_)
                        · skip
                          have h4 := in_0 h66
                          have c0 := nI_toInt (n := 4) (by decide)
                          have c1 := nI_toInt (n := 9) (by decide)
                          have c2 := nI_toInt (n := op) (by omega)
                          refine g_aload_n C dX2_makeCost_79 2 rfl rfl ?_
                          refine g_iload_n C dX2_makeCost_80 1 rfl rfl ?_
                          refine g_iload C dX2_makeCost_81 0 rfl ?_
                          refine g_callUV C ⟨g_X0_ok, trivial⟩ (t_X2_addOfOne l D ty k0 kf ko ka kb kt kl kp es4 fF4 oF4 aF4 bF4 tF sF4 pF hw4 cv st (hs.len (by omega)) op (by omega) cv (cv - p2 op) (by omega)) rfl gX2_makeCost_X2_addOfOne 2 (by decide +kernel) rfl ⟨rfl, rfl⟩ ⟨Nat.le_of_ble_eq_true rfl, Nat.le_of_ble_eq_true rfl⟩ (rest := []) (q0 := 0) rfl rfl hA [0, 1, 2, 3, 4, 5, 6] [7, 8, 9, 10] rfl rfl rfl (wr := [(s0, .inr (2, [.ref sp, .ref sa, .ref sc])), (sp, .inl (ty.1, 11, .inl (zN p2))), (sa, .inl (ty.2.2, 10, .inl (zB al))), (sc, .inl (ty.2.2, 16, .inl (zB cs)))]) rfl rfl rfl (Nat.le_of_ble_eq_true rfl) dX2_makeCost_83 ⟨Nat.le_of_ble_eq_true rfl, Nat.le_of_ble_eq_true rfl⟩ rfl (g_kuv (fun w hr => ?_))
                          obtain ⟨fF83, oF83, aF83, bF83, sF83, hw83, rfl⟩ := hr
                          have hl83 := oneN_len (op := op) (c := cv) (n := st (cv - p2 op + 1) - st (cv - p2 op)) (i := st (cv - p2 op)) hw4.2.2.2
                          refine g_ws (ws' := [(k0, .inr (1, [.int (nI ((oneN op cv (st (cv - p2 op + 1) - st (cv - p2 op)) (st (cv - p2 op)) es4).length)), .ref kf, .ref ko, .ref ka, .ref kb, .ref kt, .ref kl, .ref kp])), (kf, .inl (ty.2.1, 2000, .inr (.inl fF83))), (ko, .inl (ty.1, 2000, .inl oF83)), (ka, .inl (ty.1, 2000, .inl aF83)), (kb, .inl (ty.1, 2000, .inl bF83)), (kt, .inl (ty.1, 8, .inl tF)), (kl, .inl (ty.1, 4096, .inl sF83)), (s0, .inr (2, [.ref sp, .ref sa, .ref sc])), (sp, .inl (ty.1, 11, .inl (zN p2))), (sa, .inl (ty.2.2, 10, .inl (zB al))), (sc, .inl (ty.2.2, 16, .inl (zB cs)))]) [4, 5, 6, 7, 8, 9, 10, 0, 1, 2, 3] rfl rfl rfl ?_
                          have L86 : ∀ (n9 : Nat) (es5 : List Ent) (fF5 : Nat → Int64) (oF5 aF5 bF5 sF5 : Nat → Int32), 0 < n9 → (rowOk es5 fF5 oF5 aF5 bF5 sF5) → (es.length ≤ es5.length) → (opsN p2 al st cv (10 - (op + 1)) (op + 1) es5 = mkC p2 al cs st cv es) → gG (g_IU A D s) p l e rm_t_X2_makeCost s m args below meth c Q 5 0 0 86 [(3, .int (nI op)), (0, .ref k0), (1, .int (nI cv)), (2, .ref s0)] [] [(k0, .inr (1, [.int (nI es5.length), .ref kf, .ref ko, .ref ka, .ref kb, .ref kt, .ref kl, .ref kp])), (kf, .inl (ty.2.1, 2000, .inr (.inl fF5))), (ko, .inl (ty.1, 2000, .inl oF5)), (ka, .inl (ty.1, 2000, .inl aF5)), (kb, .inl (ty.1, 2000, .inl bF5)), (kt, .inl (ty.1, 8, .inl tF)), (kl, .inl (ty.1, 4096, .inl sF5)), (s0, .inr (2, [.ref sp, .ref sa, .ref sc])), (sp, .inl (ty.1, 11, .inl (zN p2))), (sa, .inl (ty.2.2, 10, .inl (zB al))), (sc, .inl (ty.2.2, 16, .inl (zB cs)))] := by
                            intro n9
                            induction n9 with
                            | zero => intro es5 fF5 oF5 aF5 bF5 sF5 hn; exact absurd hn (Nat.not_lt_zero _)
                            | succ n9 ih86 =>
                              intro es5 fF5 oF5 aF5 bF5 sF5 hn86 hw5 hl5 hT5
                              refine g_iinc C dX2_makeCost_86 0 rfl (v := (nI (op + 1))) (nI_1 op) (by decide) (lv' := [(3, .int (nI (op + 1))), (0, .ref k0), (1, .int (nI cv)), (2, .ref s0)]) rfl ?_
                              refine g_goto C dX2_makeCost_89 (tgt := 29) (by decide) ?_
                              exact ih29 (op + 1) es5 fF5 oF5 aF5 bF5 sF5 (by omega) (by omega) hw5 hl5 hT5
                          refine g_lv [1, 2, 3, 4] rfl ?_
                          exact L86 _ (oneN op cv (st (cv - p2 op + 1) - st (cv - p2 op)) (st (cv - p2 op)) es4) fF83 oF83 aF83 bF83 sF83 (Nat.lt_succ_self _) hw83 (by omega) (by rw [show 10 - op = (10 - (op + 1)) + 1 by omega] at hT; rw [← hT]; refine congrArg (opsN p2 al st cv (10 - (op + 1)) (op + 1)) ?_; first | exact (opN_no (fun q => by omega)).symm | exact (opN_no (fun q => absurd q.1 (b_f h51))).symm | exact (opN_two ⟨b_t h51, by omega⟩ (by omega)).symm | exact (opN_one ⟨b_t h51, by omega⟩ (by omega)).symm)
                        · skip
                          have h4 := in_1 h66
                          have c0 := nI_toInt (n := 4) (by decide)
                          have c1 := nI_toInt (n := 9) (by decide)
                          have c2 := nI_toInt (n := op) (by omega)
                          refine g_aload_n C dX2_makeCost_69 2 rfl rfl ?_
                          refine g_iload_n C dX2_makeCost_70 1 rfl rfl ?_
                          refine g_iload C dX2_makeCost_71 0 rfl ?_
                          refine g_callUV C ⟨g_X0_ok, trivial⟩ (t_X2_addOfTwo l D ty k0 kf ko ka kb kt kl kp es4 fF4 oF4 aF4 bF4 tF sF4 pF hw4 cv st (hs.len (by omega)) op (by omega) cv (cv - p2 op) (by omega)) rfl gX2_makeCost_X2_addOfTwo 2 (by decide +kernel) rfl ⟨rfl, rfl⟩ ⟨Nat.le_of_ble_eq_true rfl, Nat.le_of_ble_eq_true rfl⟩ (rest := []) (q0 := 0) rfl rfl hA [0, 1, 2, 3, 4, 5, 6] [7, 8, 9, 10] rfl rfl rfl (wr := [(s0, .inr (2, [.ref sp, .ref sa, .ref sc])), (sp, .inl (ty.1, 11, .inl (zN p2))), (sa, .inl (ty.2.2, 10, .inl (zB al))), (sc, .inl (ty.2.2, 16, .inl (zB cs)))]) rfl rfl rfl (Nat.le_of_ble_eq_true rfl) dX2_makeCost_73 ⟨Nat.le_of_ble_eq_true rfl, Nat.le_of_ble_eq_true rfl⟩ rfl (g_kuv (fun w hr => ?_))
                          obtain ⟨fF73, oF73, aF73, bF73, sF73, hw73, rfl⟩ := hr
                          have hl73 := twoA_len (op := op) (c := cv) (st := st) (le := cv - p2 op) (n := cv - p2 op + 1) (a := 0) hw4.2.2.2
                          refine g_ws (ws' := [(k0, .inr (1, [.int (nI ((twoA op cv st (cv - p2 op) (cv - p2 op + 1) 0 es4).length)), .ref kf, .ref ko, .ref ka, .ref kb, .ref kt, .ref kl, .ref kp])), (kf, .inl (ty.2.1, 2000, .inr (.inl fF73))), (ko, .inl (ty.1, 2000, .inl oF73)), (ka, .inl (ty.1, 2000, .inl aF73)), (kb, .inl (ty.1, 2000, .inl bF73)), (kt, .inl (ty.1, 8, .inl tF)), (kl, .inl (ty.1, 4096, .inl sF73)), (s0, .inr (2, [.ref sp, .ref sa, .ref sc])), (sp, .inl (ty.1, 11, .inl (zN p2))), (sa, .inl (ty.2.2, 10, .inl (zB al))), (sc, .inl (ty.2.2, 16, .inl (zB cs)))]) [4, 5, 6, 7, 8, 9, 10, 0, 1, 2, 3] rfl rfl rfl ?_
                          refine g_goto C dX2_makeCost_76 (tgt := 86) (by decide) ?_
                          have L86 : ∀ (n9 : Nat) (es5 : List Ent) (fF5 : Nat → Int64) (oF5 aF5 bF5 sF5 : Nat → Int32), 0 < n9 → (rowOk es5 fF5 oF5 aF5 bF5 sF5) → (es.length ≤ es5.length) → (opsN p2 al st cv (10 - (op + 1)) (op + 1) es5 = mkC p2 al cs st cv es) → gG (g_IU A D s) p l e rm_t_X2_makeCost s m args below meth c Q 5 0 0 86 [(3, .int (nI op)), (0, .ref k0), (1, .int (nI cv)), (2, .ref s0)] [] [(k0, .inr (1, [.int (nI es5.length), .ref kf, .ref ko, .ref ka, .ref kb, .ref kt, .ref kl, .ref kp])), (kf, .inl (ty.2.1, 2000, .inr (.inl fF5))), (ko, .inl (ty.1, 2000, .inl oF5)), (ka, .inl (ty.1, 2000, .inl aF5)), (kb, .inl (ty.1, 2000, .inl bF5)), (kt, .inl (ty.1, 8, .inl tF)), (kl, .inl (ty.1, 4096, .inl sF5)), (s0, .inr (2, [.ref sp, .ref sa, .ref sc])), (sp, .inl (ty.1, 11, .inl (zN p2))), (sa, .inl (ty.2.2, 10, .inl (zB al))), (sc, .inl (ty.2.2, 16, .inl (zB cs)))] := by
                            intro n9
                            induction n9 with
                            | zero => intro es5 fF5 oF5 aF5 bF5 sF5 hn; exact absurd hn (Nat.not_lt_zero _)
                            | succ n9 ih86 =>
                              intro es5 fF5 oF5 aF5 bF5 sF5 hn86 hw5 hl5 hT5
                              refine g_iinc C dX2_makeCost_86 0 rfl (v := (nI (op + 1))) (nI_1 op) (by decide) (lv' := [(3, .int (nI (op + 1))), (0, .ref k0), (1, .int (nI cv)), (2, .ref s0)]) rfl ?_
                              refine g_goto C dX2_makeCost_89 (tgt := 29) (by decide) ?_
                              exact ih29 (op + 1) es5 fF5 oF5 aF5 bF5 sF5 (by omega) (by omega) hw5 hl5 hT5
                          refine g_lv [1, 2, 3, 4] rfl ?_
                          exact L86 _ (twoA op cv st (cv - p2 op) (cv - p2 op + 1) 0 es4) fF73 oF73 aF73 bF73 sF73 (Nat.lt_succ_self _) hw73 (by omega) (by rw [show 10 - op = (10 - (op + 1)) + 1 by omega] at hT; rw [← hT]; refine congrArg (opsN p2 al st cv (10 - (op + 1)) (op + 1)) ?_; first | exact (opN_no (fun q => by omega)).symm | exact (opN_no (fun q => absurd q.1 (b_f h51))).symm | exact (opN_two ⟨b_t h51, by omega⟩ (by omega)).symm | exact (opN_one ⟨b_t h51, by omega⟩ (by omega)).symm)
                      · skip
                        rw [pk_sub_toInt (by omega) (by omega)] at h56
                        refine g_goto C dX2_makeCost_59 (tgt := 86) (by decide) ?_
                        have L86 : ∀ (n9 : Nat) (es5 : List Ent) (fF5 : Nat → Int64) (oF5 aF5 bF5 sF5 : Nat → Int32), 0 < n9 → (rowOk es5 fF5 oF5 aF5 bF5 sF5) → (es.length ≤ es5.length) → (opsN p2 al st cv (10 - (op + 1)) (op + 1) es5 = mkC p2 al cs st cv es) → gG (g_IU A D s) p l e rm_t_X2_makeCost s m args below meth c Q 5 0 0 86 [(3, .int (nI op)), (0, .ref k0), (1, .int (nI cv)), (2, .ref s0)] [] [(k0, .inr (1, [.int (nI es5.length), .ref kf, .ref ko, .ref ka, .ref kb, .ref kt, .ref kl, .ref kp])), (kf, .inl (ty.2.1, 2000, .inr (.inl fF5))), (ko, .inl (ty.1, 2000, .inl oF5)), (ka, .inl (ty.1, 2000, .inl aF5)), (kb, .inl (ty.1, 2000, .inl bF5)), (kt, .inl (ty.1, 8, .inl tF)), (kl, .inl (ty.1, 4096, .inl sF5)), (s0, .inr (2, [.ref sp, .ref sa, .ref sc])), (sp, .inl (ty.1, 11, .inl (zN p2))), (sa, .inl (ty.2.2, 10, .inl (zB al))), (sc, .inl (ty.2.2, 16, .inl (zB cs)))] := by
                          intro n9
                          induction n9 with
                          | zero => intro es5 fF5 oF5 aF5 bF5 sF5 hn; exact absurd hn (Nat.not_lt_zero _)
                          | succ n9 ih86 =>
                            intro es5 fF5 oF5 aF5 bF5 sF5 hn86 hw5 hl5 hT5
                            refine g_iinc C dX2_makeCost_86 0 rfl (v := (nI (op + 1))) (nI_1 op) (by decide) (lv' := [(3, .int (nI (op + 1))), (0, .ref k0), (1, .int (nI cv)), (2, .ref s0)]) rfl ?_
                            refine g_goto C dX2_makeCost_89 (tgt := 29) (by decide) ?_
                            exact ih29 (op + 1) es5 fF5 oF5 aF5 bF5 sF5 (by omega) (by omega) hw5 hl5 hT5
                        refine g_lv [1, 2, 3, 4] rfl ?_
                        exact L86 _ es4 fF4 oF4 aF4 bF4 sF4 (Nat.lt_succ_self _) hw4 (by omega) (by rw [show 10 - op = (10 - (op + 1)) + 1 by omega] at hT; rw [← hT]; refine congrArg (opsN p2 al st cv (10 - (op + 1)) (op + 1)) ?_; first | exact (opN_no (fun q => by omega)).symm | exact (opN_no (fun q => absurd q.1 (b_f h51))).symm | exact (opN_two ⟨b_t h51, by omega⟩ (by omega)).symm | exact (opN_one ⟨b_t h51, by omega⟩ (by omega)).symm)
              exact L29 _ 0 es3 fF3 oF3 aF3 bF3 sF3 (Nat.lt_succ_self _) (by omega) hw3 hl3 (by rw [hE3]; rfl)
          exact L27 _ es1 fF1 oF1 aF1 bF1 sF1 (Nat.lt_succ_self _) hw1 (by omega) (by rw [hE1]; first | exact (if_pos (show cv = p2 10 by omega)).symm | exact (if_neg (show ¬ cv = p2 10 by omega)).symm)
        · skip
          refine g_aload_n C dX2_makeCost_22 0 rfl rfl ?_
          refine g_aload_n C dX2_makeCost_23 2 rfl rfl ?_
          refine g_callUV C ⟨g_X0_ok, trivial⟩ (t_X2_addConstants l D ty k0 kf ko ka kb kt kl kp es1 fF1 oF1 aF1 bF1 tF sF1 pF hw1 s0 sp sa sc p2 al cs cv) rfl gX2_makeCost_X2_addConstants 1 (by decide +kernel) rfl ⟨rfl, rfl⟩ ⟨Nat.le_of_ble_eq_true rfl, Nat.le_of_ble_eq_true rfl⟩ (rest := []) (q0 := 0) rfl rfl hA [0, 1, 2, 3, 4, 6, 7, 8, 9, 10] [5] rfl rfl rfl (wr := [(kt, .inl (ty.1, 8, .inl tF))]) rfl rfl rfl (Nat.le_of_ble_eq_true rfl) dX2_makeCost_24 ⟨Nat.le_of_ble_eq_true rfl, Nat.le_of_ble_eq_true rfl⟩ rfl (g_kuv (fun w hr => ?_))
          obtain ⟨fF24, oF24, aF24, bF24, sF24, hw24, rfl⟩ := hr
          have hl24 := coN_len (cs := cs) (c := cv) (n := 16) (v := 0) hw1.2.2.2
          refine g_ws (ws' := [(k0, .inr (1, [.int (nI ((coN cs cv 16 0 es1).length)), .ref kf, .ref ko, .ref ka, .ref kb, .ref kt, .ref kl, .ref kp])), (kf, .inl (ty.2.1, 2000, .inr (.inl fF24))), (ko, .inl (ty.1, 2000, .inl oF24)), (ka, .inl (ty.1, 2000, .inl aF24)), (kb, .inl (ty.1, 2000, .inl bF24)), (kt, .inl (ty.1, 8, .inl tF)), (kl, .inl (ty.1, 4096, .inl sF24)), (s0, .inr (2, [.ref sp, .ref sa, .ref sc])), (sp, .inl (ty.1, 11, .inl (zN p2))), (sa, .inl (ty.2.2, 10, .inl (zB al))), (sc, .inl (ty.2.2, 16, .inl (zB cs)))]) [1, 2, 3, 4, 5, 0, 6, 7, 8, 9, 10] rfl rfl rfl ?_
          have L27 : ∀ (n9 : Nat) (es3 : List Ent) (fF3 : Nat → Int64) (oF3 aF3 bF3 sF3 : Nat → Int32), 0 < n9 → (rowOk es3 fF3 oF3 aF3 bF3 sF3) → (es.length ≤ es3.length) → (es3 = mk1 p2 cs cv (mk0 cv es)) → gG (g_IU A D s) p l e rm_t_X2_makeCost s m args below meth c Q 5 0 0 27 [(0, .ref k0), (1, .int (nI cv)), (2, .ref s0)] [] [(k0, .inr (1, [.int (nI es3.length), .ref kf, .ref ko, .ref ka, .ref kb, .ref kt, .ref kl, .ref kp])), (kf, .inl (ty.2.1, 2000, .inr (.inl fF3))), (ko, .inl (ty.1, 2000, .inl oF3)), (ka, .inl (ty.1, 2000, .inl aF3)), (kb, .inl (ty.1, 2000, .inl bF3)), (kt, .inl (ty.1, 8, .inl tF)), (kl, .inl (ty.1, 4096, .inl sF3)), (s0, .inr (2, [.ref sp, .ref sa, .ref sc])), (sp, .inl (ty.1, 11, .inl (zN p2))), (sa, .inl (ty.2.2, 10, .inl (zB al))), (sc, .inl (ty.2.2, 16, .inl (zB cs)))] := by
            intro n9
            induction n9 with
            | zero => intro es3 fF3 oF3 aF3 bF3 sF3 hn; exact absurd hn (Nat.not_lt_zero _)
            | succ n9 ih27 =>
              intro es3 fF3 oF3 aF3 bF3 sF3 hn27 hw3 hl3 hE3
              refine g_iconst C dX2_makeCost_27 (v := (nI 0)) (by decide) ?_
              refine g_istore_n C dX2_makeCost_28 rfl (by decide) (lv' := [(3, .int (nI 0)), (0, .ref k0), (1, .int (nI cv)), (2, .ref s0)]) rfl ?_
              have L29 : ∀ (n9 : Nat) (op : Nat) (es4 : List Ent) (fF4 : Nat → Int64) (oF4 aF4 bF4 sF4 : Nat → Int32), 10 - op < n9 → (op ≤ 10) → (rowOk es4 fF4 oF4 aF4 bF4 sF4) → (es.length ≤ es4.length) → (opsN p2 al st cv (10 - op) op es4 = mkC p2 al cs st cv es) → gG (g_IU A D s) p l e rm_t_X2_makeCost s m args below meth c Q 5 0 0 29 [(3, .int (nI op)), (0, .ref k0), (1, .int (nI cv)), (2, .ref s0)] [] [(k0, .inr (1, [.int (nI es4.length), .ref kf, .ref ko, .ref ka, .ref kb, .ref kt, .ref kl, .ref kp])), (kf, .inl (ty.2.1, 2000, .inr (.inl fF4))), (ko, .inl (ty.1, 2000, .inl oF4)), (ka, .inl (ty.1, 2000, .inl aF4)), (kb, .inl (ty.1, 2000, .inl bF4)), (kt, .inl (ty.1, 8, .inl tF)), (kl, .inl (ty.1, 4096, .inl sF4)), (s0, .inr (2, [.ref sp, .ref sa, .ref sc])), (sp, .inl (ty.1, 11, .inl (zN p2))), (sa, .inl (ty.2.2, 10, .inl (zB al))), (sc, .inl (ty.2.2, 16, .inl (zB cs)))] := by
                intro n9
                induction n9 with
                | zero => intro op es4 fF4 oF4 aF4 bF4 sF4 hn; exact absurd hn (Nat.not_lt_zero _)
                | succ n9 ih29 =>
                  intro op es4 fF4 oF4 aF4 bF4 sF4 hn29 ho hw4 hl4 hT
                  have hl4b := hw4.2.2.2
                  have hbt := bt_lt (al op)
                  refine g_iload_n C dX2_makeCost_29 0 rfl rfl ?_
                  refine g_bipush C dX2_makeCost_30 (v := (nI 10)) (by decide) ?_
                  refine g_icmp_geN C dX2_makeCost_32 (tgt := 92) (by decide) (by omega) (by omega) (fun h32 => ?_) (fun h32 => ?_)
                  · skip
                    have hE : es4 = mkC p2 al cs st cv es := by rw [← hT, show 10 - op = 0 by omega]; rfl
                    refine hR _ _ _ _ _ dX2_makeCost_92 ?_ (by omega) (by omega)
                    rw [← hE]
                    exact ⟨_, _, _, _, _, hw4, rfl⟩
                  · skip
                    have hpo := hp.1 op (by omega)
                    refine g_iload_n C dX2_makeCost_35 2 rfl rfl ?_
                    refine g_aload_n C dX2_makeCost_36 3 rfl rfl ?_
                    refine g_get C 7 rfl rfl 0 (by decide) (fun _ h => (List.mem_cons_of_mem _ (List.mem_append_left _ (List.mem_append_right _ h)))) 2 rfl rfl rfl dX2_makeCost_37 ?_
                    refine g_iload_n C dX2_makeCost_40 0 rfl rfl ?_
                    refine g_iald C (v := (nI (p2 op))) 8 rfl (by omega) (by omega) rfl dX2_makeCost_41 ?_
                    refine g_isub C dX2_makeCost_42 (v := (nI cv - nI (p2 op))) rfl ?_
                    refine g_istore C dX2_makeCost_43 (by decide) (lv' := [(4, .int (nI cv - nI (p2 op))), (3, .int (nI op)), (0, .ref k0), (1, .int (nI cv)), (2, .ref s0)]) rfl ?_
                    refine g_aload_n C dX2_makeCost_45 4 rfl rfl ?_
                    refine g_get C 7 rfl rfl 1 (by decide) (fun _ h => (List.mem_cons_of_mem _ (List.mem_append_left _ (List.mem_append_right _ h)))) 3 rfl rfl rfl dX2_makeCost_46 ?_
                    refine g_iload_n C dX2_makeCost_49 1 rfl rfl ?_
                    refine g_zald C (v := (nI ((al op).toNat))) 9 rfl (by omega) (by omega) rfl dX2_makeCost_50 ?_
                    refine g_if_eqN C dX2_makeCost_51 (tgt := 86) (by decide) (by omega) (fun h51 => ?_) (fun h51 => ?_)
                    · skip
                      have L86 : ∀ (n9 : Nat) (es5 : List Ent) (fF5 : Nat → Int64) (oF5 aF5 bF5 sF5 : Nat → Int32), 0 < n9 → (rowOk es5 fF5 oF5 aF5 bF5 sF5) → (es.length ≤ es5.length) → (opsN p2 al st cv (10 - (op + 1)) (op + 1) es5 = mkC p2 al cs st cv es) → gG (g_IU A D s) p l e rm_t_X2_makeCost s m args below meth c Q 5 0 0 86 [(3, .int (nI op)), (0, .ref k0), (1, .int (nI cv)), (2, .ref s0)] [] [(k0, .inr (1, [.int (nI es5.length), .ref kf, .ref ko, .ref ka, .ref kb, .ref kt, .ref kl, .ref kp])), (kf, .inl (ty.2.1, 2000, .inr (.inl fF5))), (ko, .inl (ty.1, 2000, .inl oF5)), (ka, .inl (ty.1, 2000, .inl aF5)), (kb, .inl (ty.1, 2000, .inl bF5)), (kt, .inl (ty.1, 8, .inl tF)), (kl, .inl (ty.1, 4096, .inl sF5)), (s0, .inr (2, [.ref sp, .ref sa, .ref sc])), (sp, .inl (ty.1, 11, .inl (zN p2))), (sa, .inl (ty.2.2, 10, .inl (zB al))), (sc, .inl (ty.2.2, 16, .inl (zB cs)))] := by
                        intro n9
                        induction n9 with
                        | zero => intro es5 fF5 oF5 aF5 bF5 sF5 hn; exact absurd hn (Nat.not_lt_zero _)
                        | succ n9 ih86 =>
                          intro es5 fF5 oF5 aF5 bF5 sF5 hn86 hw5 hl5 hT5
                          refine g_iinc C dX2_makeCost_86 0 rfl (v := (nI (op + 1))) (nI_1 op) (by decide) (lv' := [(3, .int (nI (op + 1))), (0, .ref k0), (1, .int (nI cv)), (2, .ref s0)]) rfl ?_
                          refine g_goto C dX2_makeCost_89 (tgt := 29) (by decide) ?_
                          exact ih29 (op + 1) es5 fF5 oF5 aF5 bF5 sF5 (by omega) (by omega) hw5 hl5 hT5
                      refine g_lv [1, 2, 3, 4] rfl ?_
                      exact L86 _ es4 fF4 oF4 aF4 bF4 sF4 (Nat.lt_succ_self _) hw4 (by omega) (by rw [show 10 - op = (10 - (op + 1)) + 1 by omega] at hT; rw [← hT]; refine congrArg (opsN p2 al st cv (10 - (op + 1)) (op + 1)) ?_; first | exact (opN_no (fun q => by omega)).symm | exact (opN_no (fun q => absurd q.1 (b_f h51))).symm | exact (opN_two ⟨b_t h51, by omega⟩ (by omega)).symm | exact (opN_one ⟨b_t h51, by omega⟩ (by omega)).symm)
                    · skip
                      refine g_iload C dX2_makeCost_54 0 rfl ?_
                      refine g_if_ge C dX2_makeCost_56 (tgt := 62) (by decide) (fun h56 => ?_) (fun h56 => ?_)
                      · skip
                        rw [pk_sub_toInt (by omega) (by omega)] at h56
                        rw [pk_sub (show p2 op ≤ cv by omega)]
                        refine g_iload_n C dX2_makeCost_62 1 rfl rfl ?_
                        refine g_callPSN C ⟨g_X0_ok, trivial⟩ (t_X5_hasTwoArguments l D ty (nI op)) rfl (hX.2.1 2 (by decide)) ggX2_makeCost_X5_hasTwoArguments 41 40 rfl rfl 1 (by decide +kernel) rfl ⟨rfl, rfl⟩ ⟨Nat.le_of_ble_eq_true rfl, Nat.le_of_ble_eq_true rfl⟩ (rest := []) [] rfl (Nat.le_of_ble_eq_true rfl) dX2_makeCost_63 ⟨Nat.le_of_ble_eq_true rfl, Nat.le_of_ble_eq_true rfl⟩ rfl (g_ki (fun r hr => ?_))
                        subst hr
                        have := bt_lt (inB (nI op) (nI 4) (nI 9))
                        refine g_if_eqN C dX2_makeCost_66 (tgt := 79) (by decide) (by omega) (fun h66 => ?_) (fun h66 => ?_)
                        · skip
                          have h4 := in_0 h66
                          have c0 := nI_toInt (n := 4) (by decide)
                          have c1 := nI_toInt (n := 9) (by decide)
                          have c2 := nI_toInt (n := op) (by omega)
                          refine g_aload_n C dX2_makeCost_79 2 rfl rfl ?_
                          refine g_iload_n C dX2_makeCost_80 1 rfl rfl ?_
                          refine g_iload C dX2_makeCost_81 0 rfl ?_
                          refine g_callUV C ⟨g_X0_ok, trivial⟩ (t_X2_addOfOne l D ty k0 kf ko ka kb kt kl kp es4 fF4 oF4 aF4 bF4 tF sF4 pF hw4 cv st (hs.len (by omega)) op (by omega) cv (cv - p2 op) (by omega)) rfl gX2_makeCost_X2_addOfOne 2 (by decide +kernel) rfl ⟨rfl, rfl⟩ ⟨Nat.le_of_ble_eq_true rfl, Nat.le_of_ble_eq_true rfl⟩ (rest := []) (q0 := 0) rfl rfl hA [0, 1, 2, 3, 4, 5, 6] [7, 8, 9, 10] rfl rfl rfl (wr := [(s0, .inr (2, [.ref sp, .ref sa, .ref sc])), (sp, .inl (ty.1, 11, .inl (zN p2))), (sa, .inl (ty.2.2, 10, .inl (zB al))), (sc, .inl (ty.2.2, 16, .inl (zB cs)))]) rfl rfl rfl (Nat.le_of_ble_eq_true rfl) dX2_makeCost_83 ⟨Nat.le_of_ble_eq_true rfl, Nat.le_of_ble_eq_true rfl⟩ rfl (g_kuv (fun w hr => ?_))
                          obtain ⟨fF83, oF83, aF83, bF83, sF83, hw83, rfl⟩ := hr
                          have hl83 := oneN_len (op := op) (c := cv) (n := st (cv - p2 op + 1) - st (cv - p2 op)) (i := st (cv - p2 op)) hw4.2.2.2
                          refine g_ws (ws' := [(k0, .inr (1, [.int (nI ((oneN op cv (st (cv - p2 op + 1) - st (cv - p2 op)) (st (cv - p2 op)) es4).length)), .ref kf, .ref ko, .ref ka, .ref kb, .ref kt, .ref kl, .ref kp])), (kf, .inl (ty.2.1, 2000, .inr (.inl fF83))), (ko, .inl (ty.1, 2000, .inl oF83)), (ka, .inl (ty.1, 2000, .inl aF83)), (kb, .inl (ty.1, 2000, .inl bF83)), (kt, .inl (ty.1, 8, .inl tF)), (kl, .inl (ty.1, 4096, .inl sF83)), (s0, .inr (2, [.ref sp, .ref sa, .ref sc])), (sp, .inl (ty.1, 11, .inl (zN p2))), (sa, .inl (ty.2.2, 10, .inl (zB al))), (sc, .inl (ty.2.2, 16, .inl (zB cs)))]) [4, 5, 6, 7, 8, 9, 10, 0, 1, 2, 3] rfl rfl rfl ?_
                          have L86 : ∀ (n9 : Nat) (es5 : List Ent) (fF5 : Nat → Int64) (oF5 aF5 bF5 sF5 : Nat → Int32), 0 < n9 → (rowOk es5 fF5 oF5 aF5 bF5 sF5) → (es.length ≤ es5.length) → (opsN p2 al st cv (10 - (op + 1)) (op + 1) es5 = mkC p2 al cs st cv es) → gG (g_IU A D s) p l e rm_t_X2_makeCost s m args below meth c Q 5 0 0 86 [(3, .int (nI op)), (0, .ref k0), (1, .int (nI cv)), (2, .ref s0)] [] [(k0, .inr (1, [.int (nI es5.length), .ref kf, .ref ko, .ref ka, .ref kb, .ref kt, .ref kl, .ref kp])), (kf, .inl (ty.2.1, 2000, .inr (.inl fF5))), (ko, .inl (ty.1, 2000, .inl oF5)), (ka, .inl (ty.1, 2000, .inl aF5)), (kb, .inl (ty.1, 2000, .inl bF5)), (kt, .inl (ty.1, 8, .inl tF)), (kl, .inl (ty.1, 4096, .inl sF5)), (s0, .inr (2, [.ref sp, .ref sa, .ref sc])), (sp, .inl (ty.1, 11, .inl (zN p2))), (sa, .inl (ty.2.2, 10, .inl (zB al))), (sc, .inl (ty.2.2, 16, .inl (zB cs)))] := by
                            intro n9
                            induction n9 with
                            | zero => intro es5 fF5 oF5 aF5 bF5 sF5 hn; exact absurd hn (Nat.not_lt_zero _)
                            | succ n9 ih86 =>
                              intro es5 fF5 oF5 aF5 bF5 sF5 hn86 hw5 hl5 hT5
                              refine g_iinc C dX2_makeCost_86 0 rfl (v := (nI (op + 1))) (nI_1 op) (by decide) (lv' := [(3, .int (nI (op + 1))), (0, .ref k0), (1, .int (nI cv)), (2, .ref s0)]) rfl ?_
                              refine g_goto C dX2_makeCost_89 (tgt := 29) (by decide) ?_
                              exact ih29 (op + 1) es5 fF5 oF5 aF5 bF5 sF5 (by omega) (by omega) hw5 hl5 hT5
                          refine g_lv [1, 2, 3, 4] rfl ?_
                          exact L86 _ (oneN op cv (st (cv - p2 op + 1) - st (cv - p2 op)) (st (cv - p2 op)) es4) fF83 oF83 aF83 bF83 sF83 (Nat.lt_succ_self _) hw83 (by omega) (by rw [show 10 - op = (10 - (op + 1)) + 1 by omega] at hT; rw [← hT]; refine congrArg (opsN p2 al st cv (10 - (op + 1)) (op + 1)) ?_; first | exact (opN_no (fun q => by omega)).symm | exact (opN_no (fun q => absurd q.1 (b_f h51))).symm | exact (opN_two ⟨b_t h51, by omega⟩ (by omega)).symm | exact (opN_one ⟨b_t h51, by omega⟩ (by omega)).symm)
                        · skip
                          have h4 := in_1 h66
                          have c0 := nI_toInt (n := 4) (by decide)
                          have c1 := nI_toInt (n := 9) (by decide)
                          have c2 := nI_toInt (n := op) (by omega)
                          refine g_aload_n C dX2_makeCost_69 2 rfl rfl ?_
                          refine g_iload_n C dX2_makeCost_70 1 rfl rfl ?_
                          refine g_iload C dX2_makeCost_71 0 rfl ?_
                          refine g_callUV C ⟨g_X0_ok, trivial⟩ (t_X2_addOfTwo l D ty k0 kf ko ka kb kt kl kp es4 fF4 oF4 aF4 bF4 tF sF4 pF hw4 cv st (hs.len (by omega)) op (by omega) cv (cv - p2 op) (by omega)) rfl gX2_makeCost_X2_addOfTwo 2 (by decide +kernel) rfl ⟨rfl, rfl⟩ ⟨Nat.le_of_ble_eq_true rfl, Nat.le_of_ble_eq_true rfl⟩ (rest := []) (q0 := 0) rfl rfl hA [0, 1, 2, 3, 4, 5, 6] [7, 8, 9, 10] rfl rfl rfl (wr := [(s0, .inr (2, [.ref sp, .ref sa, .ref sc])), (sp, .inl (ty.1, 11, .inl (zN p2))), (sa, .inl (ty.2.2, 10, .inl (zB al))), (sc, .inl (ty.2.2, 16, .inl (zB cs)))]) rfl rfl rfl (Nat.le_of_ble_eq_true rfl) dX2_makeCost_73 ⟨Nat.le_of_ble_eq_true rfl, Nat.le_of_ble_eq_true rfl⟩ rfl (g_kuv (fun w hr => ?_))
                          obtain ⟨fF73, oF73, aF73, bF73, sF73, hw73, rfl⟩ := hr
                          have hl73 := twoA_len (op := op) (c := cv) (st := st) (le := cv - p2 op) (n := cv - p2 op + 1) (a := 0) hw4.2.2.2
                          refine g_ws (ws' := [(k0, .inr (1, [.int (nI ((twoA op cv st (cv - p2 op) (cv - p2 op + 1) 0 es4).length)), .ref kf, .ref ko, .ref ka, .ref kb, .ref kt, .ref kl, .ref kp])), (kf, .inl (ty.2.1, 2000, .inr (.inl fF73))), (ko, .inl (ty.1, 2000, .inl oF73)), (ka, .inl (ty.1, 2000, .inl aF73)), (kb, .inl (ty.1, 2000, .inl bF73)), (kt, .inl (ty.1, 8, .inl tF)), (kl, .inl (ty.1, 4096, .inl sF73)), (s0, .inr (2, [.ref sp, .ref sa, .ref sc])), (sp, .inl (ty.1, 11, .inl (zN p2))), (sa, .inl (ty.2.2, 10, .inl (zB al))), (sc, .inl (ty.2.2, 16, .inl (zB cs)))]) [4, 5, 6, 7, 8, 9, 10, 0, 1, 2, 3] rfl rfl rfl ?_
                          refine g_goto C dX2_makeCost_76 (tgt := 86) (by decide) ?_
                          have L86 : ∀ (n9 : Nat) (es5 : List Ent) (fF5 : Nat → Int64) (oF5 aF5 bF5 sF5 : Nat → Int32), 0 < n9 → (rowOk es5 fF5 oF5 aF5 bF5 sF5) → (es.length ≤ es5.length) → (opsN p2 al st cv (10 - (op + 1)) (op + 1) es5 = mkC p2 al cs st cv es) → gG (g_IU A D s) p l e rm_t_X2_makeCost s m args below meth c Q 5 0 0 86 [(3, .int (nI op)), (0, .ref k0), (1, .int (nI cv)), (2, .ref s0)] [] [(k0, .inr (1, [.int (nI es5.length), .ref kf, .ref ko, .ref ka, .ref kb, .ref kt, .ref kl, .ref kp])), (kf, .inl (ty.2.1, 2000, .inr (.inl fF5))), (ko, .inl (ty.1, 2000, .inl oF5)), (ka, .inl (ty.1, 2000, .inl aF5)), (kb, .inl (ty.1, 2000, .inl bF5)), (kt, .inl (ty.1, 8, .inl tF)), (kl, .inl (ty.1, 4096, .inl sF5)), (s0, .inr (2, [.ref sp, .ref sa, .ref sc])), (sp, .inl (ty.1, 11, .inl (zN p2))), (sa, .inl (ty.2.2, 10, .inl (zB al))), (sc, .inl (ty.2.2, 16, .inl (zB cs)))] := by
                            intro n9
                            induction n9 with
                            | zero => intro es5 fF5 oF5 aF5 bF5 sF5 hn; exact absurd hn (Nat.not_lt_zero _)
                            | succ n9 ih86 =>
                              intro es5 fF5 oF5 aF5 bF5 sF5 hn86 hw5 hl5 hT5
                              refine g_iinc C dX2_makeCost_86 0 rfl (v := (nI (op + 1))) (nI_1 op) (by decide) (lv' := [(3, .int (nI (op + 1))), (0, .ref k0), (1, .int (nI cv)), (2, .ref s0)]) rfl ?_
                              refine g_goto C dX2_makeCost_89 (tgt := 29) (by decide) ?_
                              exact ih29 (op + 1) es5 fF5 oF5 aF5 bF5 sF5 (by omega) (by omega) hw5 hl5 hT5
                          refine g_lv [1, 2, 3, 4] rfl ?_
                          exact L86 _ (twoA op cv st (cv - p2 op) (cv - p2 op + 1) 0 es4) fF73 oF73 aF73 bF73 sF73 (Nat.lt_succ_self _) hw73 (by omega) (by rw [show 10 - op = (10 - (op + 1)) + 1 by omega] at hT; rw [← hT]; refine congrArg (opsN p2 al st cv (10 - (op + 1)) (op + 1)) ?_; first | exact (opN_no (fun q => by omega)).symm | exact (opN_no (fun q => absurd q.1 (b_f h51))).symm | exact (opN_two ⟨b_t h51, by omega⟩ (by omega)).symm | exact (opN_one ⟨b_t h51, by omega⟩ (by omega)).symm)
                      · skip
                        rw [pk_sub_toInt (by omega) (by omega)] at h56
                        refine g_goto C dX2_makeCost_59 (tgt := 86) (by decide) ?_
                        have L86 : ∀ (n9 : Nat) (es5 : List Ent) (fF5 : Nat → Int64) (oF5 aF5 bF5 sF5 : Nat → Int32), 0 < n9 → (rowOk es5 fF5 oF5 aF5 bF5 sF5) → (es.length ≤ es5.length) → (opsN p2 al st cv (10 - (op + 1)) (op + 1) es5 = mkC p2 al cs st cv es) → gG (g_IU A D s) p l e rm_t_X2_makeCost s m args below meth c Q 5 0 0 86 [(3, .int (nI op)), (0, .ref k0), (1, .int (nI cv)), (2, .ref s0)] [] [(k0, .inr (1, [.int (nI es5.length), .ref kf, .ref ko, .ref ka, .ref kb, .ref kt, .ref kl, .ref kp])), (kf, .inl (ty.2.1, 2000, .inr (.inl fF5))), (ko, .inl (ty.1, 2000, .inl oF5)), (ka, .inl (ty.1, 2000, .inl aF5)), (kb, .inl (ty.1, 2000, .inl bF5)), (kt, .inl (ty.1, 8, .inl tF)), (kl, .inl (ty.1, 4096, .inl sF5)), (s0, .inr (2, [.ref sp, .ref sa, .ref sc])), (sp, .inl (ty.1, 11, .inl (zN p2))), (sa, .inl (ty.2.2, 10, .inl (zB al))), (sc, .inl (ty.2.2, 16, .inl (zB cs)))] := by
                          intro n9
                          induction n9 with
                          | zero => intro es5 fF5 oF5 aF5 bF5 sF5 hn; exact absurd hn (Nat.not_lt_zero _)
                          | succ n9 ih86 =>
                            intro es5 fF5 oF5 aF5 bF5 sF5 hn86 hw5 hl5 hT5
                            refine g_iinc C dX2_makeCost_86 0 rfl (v := (nI (op + 1))) (nI_1 op) (by decide) (lv' := [(3, .int (nI (op + 1))), (0, .ref k0), (1, .int (nI cv)), (2, .ref s0)]) rfl ?_
                            refine g_goto C dX2_makeCost_89 (tgt := 29) (by decide) ?_
                            exact ih29 (op + 1) es5 fF5 oF5 aF5 bF5 sF5 (by omega) (by omega) hw5 hl5 hT5
                        refine g_lv [1, 2, 3, 4] rfl ?_
                        exact L86 _ es4 fF4 oF4 aF4 bF4 sF4 (Nat.lt_succ_self _) hw4 (by omega) (by rw [show 10 - op = (10 - (op + 1)) + 1 by omega] at hT; rw [← hT]; refine congrArg (opsN p2 al st cv (10 - (op + 1)) (op + 1)) ?_; first | exact (opN_no (fun q => by omega)).symm | exact (opN_no (fun q => absurd q.1 (b_f h51))).symm | exact (opN_two ⟨b_t h51, by omega⟩ (by omega)).symm | exact (opN_one ⟨b_t h51, by omega⟩ (by omega)).symm)
              exact L29 _ 0 es3 fF3 oF3 aF3 bF3 sF3 (Nat.lt_succ_self _) (by omega) hw3 hl3 (by rw [hE3]; rfl)
          exact L27 _ (coN cs cv 16 0 es1) fF24 oF24 aF24 bF24 sF24 (Nat.lt_succ_self _) hw24 (by omega) (by rw [hE1]; first | exact (if_pos (show cv = p2 10 by omega)).symm | exact (if_neg (show ¬ cv = p2 10 by omega)).symm)
    exact L14 _ (addE (-81985529216486896) 0 (-1) (-1) (-1) es) fF11 oF11 aF11 bF11 sF11 (Nat.lt_succ_self _) hw11 (by omega) (by first | exact (if_pos (show cv = 0 by omega)).symm | exact (if_neg (show ¬ cv = 0 by omega)).symm)


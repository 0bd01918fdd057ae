abbrev rm_t_J7_fill_53178 : Room := ({ frames := 0, cells := 0, slots := 0, locals := 0 } : Room)
set_option maxHeartbeats 4000000 in
set_option maxRecDepth 100000 in
theorem t_J7_fill_53178 (l : Launch) (D : va_G) (ty : g_T3) (a n : Nat) (hn : n < 2 ^ 30) (f : Nat → Int32) (v : Int32) : g_U l yJ7_fill_53178 wsJ7_fill_53178 rm_t_J7_fill_53178 D ty g_X0 [.ref a, .int v] [(a, .inl (ty.1, n, .inl f))] 0 0 (g_uv (fun w => ∃ f2 : Nat → Int32, (∀ k, k < n → f2 k = v) ∧ w = [(a, .inl (ty.1, n, .inl f2))])) := by
  refine g_ofUv (cc := cJ7_fill_53178) (nL := 4) (own := RJ7) (by decide) rfl rfl g_X0_ok (Nat.le_of_ble_eq_true rfl) ?_
  intro p e s m args below meth c Q A C hA hX hin hR
  refine g_lv (lv' := [(0, .ref a), (1, .int v)]) [0, 1] rfl ?_
  refine g_iconst C dJ7_fill_53178_0 (v := (nI 0)) (by decide) ?_
  refine g_istore_n C dJ7_fill_53178_1 rfl (by decide) (lv' := [(2, .int (nI 0)), (0, .ref a), (1, .int v)]) rfl ?_
  refine g_aload_n C dJ7_fill_53178_2 1 rfl rfl ?_
  refine g_alen C (v := nI n) 0 rfl (t0 := 0) rfl rfl dJ7_fill_53178_3 ?_
  refine g_istore_n C dJ7_fill_53178_4 rfl (by decide) (lv' := [(3, .int (nI n)), (2, .int (nI 0)), (0, .ref a), (1, .int v)]) rfl ?_
  have L5 : ∀ (n9 : Nat) (i : Nat) (f2 : Nat → Int32), n - i < n9 → (i ≤ n) → (∀ k, k < i → f2 k = v) → gG (g_IU A D s) p l e rm_t_J7_fill_53178 s m args below meth c Q 4 0 0 5 [(2, .int (nI i)), (3, .int (nI n)), (0, .ref a), (1, .int v)] [] [(a, .inl (ty.1, n, .inl f2))] := by
    intro n9
    induction n9 with
    | zero => intro i f2 hn; exact absurd hn (Nat.not_lt_zero _)
    | succ n9 ih5 =>
      intro i f2 hn5 hi hf
      refine g_iload_n C dJ7_fill_53178_5 0 rfl rfl ?_
      refine g_iload_n C dJ7_fill_53178_6 1 rfl rfl ?_
      refine g_icmp_geN C dJ7_fill_53178_7 (tgt := 20) (by decide) (by omega) (by omega) (fun h7 => ?_) (fun h7 => ?_)
      · skip
        refine hR _ _ _ _ _ dJ7_fill_53178_20 ?_ (by omega) (by omega)
        exact ⟨f2, fun k hk => hf k (by omega), rfl⟩
      · skip
        refine g_aload_n C dJ7_fill_53178_10 2 rfl rfl ?_
        refine g_iload_n C dJ7_fill_53178_11 0 rfl rfl ?_
        refine g_iload_n C dJ7_fill_53178_12 3 rfl rfl ?_
        refine g_iast C 0 rfl (by omega) (by omega) (f' := upd f2 i v) rfl (ws' := [(a, .inl (ty.1, n, .inl (upd f2 i v)))]) rfl dJ7_fill_53178_13 ?_
        refine g_iinc C dJ7_fill_53178_14 0 rfl (v := (nI (i + 1))) (nI_1 i) (by decide) (lv' := [(2, .int (nI (i + 1))), (3, .int (nI n)), (0, .ref a), (1, .int v)]) rfl ?_
        refine g_goto C dJ7_fill_53178_17 (tgt := 5) (by decide) ?_
        exact ih5 (i + 1) _ (by omega) (by omega) (fun k hk => by rcases Nat.lt_or_ge k i with q | q; exact (pk_un (by omega)).trans (hf k q); rw [show k = i by omega]; exact pk_us)
  refine g_lv [1, 0, 2, 3] rfl ?_
  exact L5 _ 0 f (Nat.lt_succ_self _) (by omega) (fun k hk => absurd hk (Nat.not_lt_zero k))

abbrev rm_t_X3_priceOfConstants : Room := ({ frames := 0, cells := 0, slots := 0, locals := 0 } : Room)
set_option maxHeartbeats 4000000 in
set_option maxRecDepth 100000 in
theorem t_X3_priceOfConstants (l : Launch) (D : va_G) (ty : g_T3) (s0 sp sa sc : Nat) (p2 : Nat → Nat) (al cs : Nat → Bool)  : g_P l yX3_priceOfConstants wsX3_priceOfConstants rm_t_X3_priceOfConstants D ty g_X0 [.ref s0] [(s0, .inr (2, [.ref sp, .ref sa, .ref sc])), (sp, .inl (ty.1, 11, .inl (zN p2))), (sa, .inl (ty.2.2, 10, .inl (zB al))), (sc, .inl (ty.2.2, 16, .inl (zB cs)))] (g_pi (fun r => r = nI (p2 10))) := by
  refine g_ofPi (cc := cX3_priceOfConstants) (nL := 1) (own := RX3) (by decide) rfl rfl g_X0_ok (Nat.le_of_ble_eq_true rfl) ?_
  intro p e s m args below meth c Q C hX hR
  refine g_lv (lv' := [(0, .ref s0)]) [0] rfl ?_
  refine g_aload_n C dX3_priceOfConstants_0 0 rfl rfl ?_
  refine g_get C 0 rfl rfl 0 (by decide) (fun _ h => (List.mem_cons_of_mem _ (List.mem_append_right _ h))) 1 rfl rfl rfl dX3_priceOfConstants_1 ?_
  refine g_bipush C dX3_priceOfConstants_4 (v := (nI 10)) (by decide) ?_
  refine g_iald C (v := (nI (p2 10))) 1 rfl (by omega) (by omega) rfl dX3_priceOfConstants_6 ?_
  exact hR _ _ _ _ dX3_priceOfConstants_7 (rfl)

abbrev rm_t_X2_addConstants : Room := ({ frames := 2, cells := 0, slots := 0, locals := 51 } : Room)
set_option maxHeartbeats 4000000 in
set_option maxRecDepth 100000 in
theorem t_X2_addConstants (l : Launch) (D : va_G) (ty : g_T3) (k0 kf ko ka kb kt kl kp : Nat) (es : List Ent) (fF : Nat → Int64) (oF aF bF tF sF pF : Nat → Int32) (hw : rowOk es fF oF aF bF sF) (s0 sp sa sc : Nat) (p2 : Nat → Nat) (al cs : Nat → Bool) (cv : Nat) : g_U l yX2_addConstants wsX2_addConstants rm_t_X2_addConstants D ty g_X0 [.ref k0, .ref s0] [(k0, .inr (1, [.int (nI es.length), .ref kf, .ref ko, .ref ka, .ref kb, .ref kt, .ref kl, .ref kp])), (kf, .inl (ty.2.1, 2000, .inr (.inl fF))), (ko, .inl (ty.1, 2000, .inl oF)), (ka, .inl (ty.1, 2000, .inl aF)), (kb, .inl (ty.1, 2000, .inl bF)), (kl, .inl (ty.1, 4096, .inl sF)), (s0, .inr (2, [.ref sp, .ref sa, .ref sc])), (sp, .inl (ty.1, 11, .inl (zN p2))), (sa, .inl (ty.2.2, 10, .inl (zB al))), (sc, .inl (ty.2.2, 16, .inl (zB cs)))] 0 0 (g_uv (fun w => ∃ (fF2 : Nat → Int64) (oF2 aF2 bF2 sF2 : Nat → Int32), rowOk (coN cs cv 16 0 es) fF2 oF2 aF2 bF2 sF2 ∧ w = [(k0, .inr (1, [.int (nI ((coN cs cv 16 0 es).length)), .ref kf, .ref ko, .ref ka, .ref kb, .ref kt, .ref kl, .ref kp])), (kf, .inl (ty.2.1, 2000, .inr (.inl fF2))), (ko, .inl (ty.1, 2000, .inl oF2)), (ka, .inl (ty.1, 2000, .inl aF2)), (kb, .inl (ty.1, 2000, .inl bF2)), (kl, .inl (ty.1, 4096, .inl sF2)), (s0, .inr (2, [.ref sp, .ref sa, .ref sc])), (sp, .inl (ty.1, 11, .inl (zN p2))), (sa, .inl (ty.2.2, 10, .inl (zB al))), (sc, .inl (ty.2.2, 16, .inl (zB cs)))])) := by
  refine g_ofUv (cc := cX2_addConstants) (nL := 3) (own := RX2) (by decide) rfl rfl g_X0_ok (Nat.le_of_ble_eq_true rfl) ?_
  intro p e s m args below meth c Q A C hA hX hin hR
  refine g_lv (lv' := [(0, .ref k0), (1, .ref s0)]) [0, 1] rfl ?_
  refine g_iconst C dX2_addConstants_0 (v := (nI 0)) (by decide) ?_
  refine g_istore_n C dX2_addConstants_1 rfl (by decide) (lv' := [(2, .int (nI 0)), (0, .ref k0), (1, .ref s0)]) rfl ?_
  have L2 : ∀ (n9 : Nat) (v : Nat) (es1 : List Ent) (fF1 : Nat → Int64) (oF1 aF1 bF1 sF1 : Nat → Int32), 16 - v < n9 → (v ≤ 16) → (rowOk es1 fF1 oF1 aF1 bF1 sF1) → (es.length ≤ es1.length) → (coN cs cv (16 - v) v es1 = coN cs cv 16 0 es) → gG (g_IU A D s) p l e rm_t_X2_addConstants s m args below meth c Q 3 0 0 2 [(2, .int (nI v)), (0, .ref k0), (1, .ref s0)] [] [(k0, .inr (1, [.int (nI es1.length), .ref kf, .ref ko, .ref ka, .ref kb, .ref kt, .ref kl, .ref kp])), (kf, .inl (ty.2.1, 2000, .inr (.inl fF1))), (ko, .inl (ty.1, 2000, .inl oF1)), (ka, .inl (ty.1, 2000, .inl aF1)), (kb, .inl (ty.1, 2000, .inl bF1)), (kl, .inl (ty.1, 4096, .inl sF1)), (s0, .inr (2, [.ref sp, .ref sa, .ref sc])), (sp, .inl (ty.1, 11, .inl (zN p2))), (sa, .inl (ty.2.2, 10, .inl (zB al))), (sc, .inl (ty.2.2, 16, .inl (zB cs)))] := by
    intro n9
    induction n9 with
    | zero => intro v es1 fF1 oF1 aF1 bF1 sF1 hn; exact absurd hn (Nat.not_lt_zero _)
    | succ n9 ih2 =>
      intro v es1 fF1 oF1 aF1 bF1 sF1 hn2 hv hw1 hl1 hT
      have hbt := bt_lt (cs v)
      refine g_iload_n C dX2_addConstants_2 0 rfl rfl ?_
      refine g_bipush C dX2_addConstants_3 (v := (nI 16)) (by decide) ?_
      refine g_icmp_geN C dX2_addConstants_5 (tgt := 35) (by decide) (by omega) (by omega) (fun h5 => ?_) (fun h5 => ?_)
      · skip
        have hE : es1 = coN cs cv 16 0 es := by rw [← hT, show 16 - v = 0 by omega]; rfl
        refine hR _ _ _ _ _ dX2_addConstants_35 ?_ (by omega) (by omega)
        rw [← hE]
        exact ⟨_, _, _, _, _, hw1, rfl⟩
      · skip
        refine g_aload_n C dX2_addConstants_8 2 rfl rfl ?_
        refine g_get C 6 rfl rfl 2 (by decide) (fun _ h => (List.mem_cons_of_mem _ (List.mem_append_left _ (List.mem_append_right _ h)))) 1 rfl rfl rfl dX2_addConstants_9 ?_
        refine g_iload_n C dX2_addConstants_12 0 rfl rfl ?_
        refine g_zald C (v := (nI ((cs v).toNat))) 9 rfl (by omega) (by omega) rfl dX2_addConstants_13 ?_
        refine g_if_eqN C dX2_addConstants_14 (tgt := 29) (by decide) (by omega) (fun h14 => ?_) (fun h14 => ?_)
        · skip
          refine g_iinc C dX2_addConstants_29 0 rfl (v := (nI (v + 1))) (nI_1 v) (by decide) (lv' := [(2, .int (nI (v + 1))), (0, .ref k0), (1, .ref s0)]) rfl ?_
          refine g_goto C dX2_addConstants_32 (tgt := 2) (by decide) ?_
          exact ih2 (v + 1) es1 fF1 oF1 aF1 bF1 sF1 (by omega) (by omega) hw1 (by omega) (by rw [show 16 - v = (16 - (v + 1)) + 1 by omega] at hT; rw [← hT]; exact congrArg (coN cs cv (16 - (v + 1)) (v + 1)) (by first | exact (if_pos (b_t h14)).symm | exact (if_neg (b_f h14)).symm))
        · skip
          refine g_aload_n C dX2_addConstants_17 1 rfl rfl ?_
          refine g_iload_n C dX2_addConstants_18 0 rfl rfl ?_
          refine g_callPS C ⟨g_X0_ok, trivial⟩ (t_X0_constant l D ty v (by omega)) rfl gX2_addConstants_X0_constant 1 (by decide +kernel) rfl ⟨rfl, rfl⟩ ⟨Nat.le_of_ble_eq_true rfl, Nat.le_of_ble_eq_true rfl⟩ (rest := [.ref k0]) [] rfl (Nat.le_of_ble_eq_true rfl) dX2_addConstants_19 ⟨Nat.le_of_ble_eq_true rfl, Nat.le_of_ble_eq_true rfl⟩ rfl (g_kl (fun r hr => ?_))
          subst hr
          refine g_bipush C dX2_addConstants_22 (v := (-2)) (by decide) ?_
          refine g_iload_n C dX2_addConstants_24 0 rfl rfl ?_
          refine g_iconst C dX2_addConstants_25 (v := (-1)) (by decide) ?_
          refine g_callUV C ⟨g_X0_ok, trivial⟩ (t_X2_add l D ty k0 kf ko ka kb kt kl kp es1 fF1 oF1 aF1 bF1 tF sF1 pF hw1 (kF v) cv (-2) (nI v) (-1)) rfl gX2_addConstants_X2_add 4 (by decide +kernel) rfl ⟨rfl, rfl⟩ ⟨Nat.le_of_ble_eq_true rfl, Nat.le_of_ble_eq_true rfl⟩ (rest := []) (q0 := 0) rfl rfl hA [0, 1, 2, 3, 4, 5] [6, 7, 8, 9] rfl rfl rfl (wr := [(s0, .inr (2, [.ref sp, .ref sa, .ref sc])), (sp, .inl (ty.1, 11, .inl (zN p2))), (sa, .inl (ty.2.2, 10, .inl (zB al))), (sc, .inl (ty.2.2, 16, .inl (zB cs)))]) rfl rfl rfl (Nat.le_of_ble_eq_true rfl) dX2_addConstants_26 ⟨Nat.le_of_ble_eq_true rfl, Nat.le_of_ble_eq_true rfl⟩ rfl (g_kuv (fun w hr => ?_))
          obtain ⟨fF26, oF26, aF26, bF26, sF26, hw26, rfl⟩ := hr
          have hl26 := addE_len (f := (kF v)) (c := cv) (o := (-2)) (a := (nI v)) (b := (-1)) hw1.2.2.2
          refine g_ws (ws' := [(k0, .inr (1, [.int (nI ((addE (kF v) cv (-2) (nI v) (-1) es1).length)), .ref kf, .ref ko, .ref ka, .ref kb, .ref kt, .ref kl, .ref kp])), (kf, .inl (ty.2.1, 2000, .inr (.inl fF26))), (ko, .inl (ty.1, 2000, .inl oF26)), (ka, .inl (ty.1, 2000, .inl aF26)), (kb, .inl (ty.1, 2000, .inl bF26)), (kl, .inl (ty.1, 4096, .inl sF26)), (s0, .inr (2, [.ref sp, .ref sa, .ref sc])), (sp, .inl (ty.1, 11, .inl (zN p2))), (sa, .inl (ty.2.2, 10, .inl (zB al))), (sc, .inl (ty.2.2, 16, .inl (zB cs)))]) [4, 5, 6, 7, 8, 9, 0, 1, 2, 3] rfl rfl rfl ?_
          refine g_iinc C dX2_addConstants_29 0 rfl (v := (nI (v + 1))) (nI_1 v) (by decide) (lv' := [(2, .int (nI (v + 1))), (0, .ref k0), (1, .ref s0)]) rfl ?_
          refine g_goto C dX2_addConstants_32 (tgt := 2) (by decide) ?_
          exact ih2 (v + 1) (addE (kF v) cv (-2) (nI v) (-1) es1) fF26 oF26 aF26 bF26 sF26 (by omega) (by omega) hw26 (by omega) (by rw [show 16 - v = (16 - (v + 1)) + 1 by omega] at hT; rw [← hT]; exact congrArg (coN cs cv (16 - (v + 1)) (v + 1)) (by first | exact (if_pos (b_t h14)).symm | exact (if_neg (b_f h14)).symm))
  exact L2 _ 0 es fF oF aF bF sF (Nat.lt_succ_self _) (by omega) hw (Nat.le_refl _) rfl

abbrev rm_t_X2_addOfOne : Room := ({ frames := 3, cells := 0, slots := 0, locals := 77 } : Room)
set_option maxHeartbeats 4000000 in
set_option maxRecDepth 100000 in
theorem t_X2_addOfOne (l : Launch) (D : va_G) (ty : g_T3) (k0 kf ko ka kb kt kl kp : Nat) (es : List Ent) (fF : Nat → Int64) (oF aF bF tF sF pF : Nat → Int32) (hw : rowOk es fF oF aF bF sF) (cm : Nat) (st : Nat → Nat) (hs : stOk st tF cm es.length) (op : Nat) (hop : op < 10) (cv rv : Nat) (hr1 : rv + 1 ≤ cm) : g_U l yX2_addOfOne wsX2_addOfOne rm_t_X2_addOfOne D ty g_X0 [.ref k0, .int (nI op), .int (nI rv)] [(k0, .inr (1, [.int (nI es.length), .ref kf, .ref ko, .ref ka, .ref kb, .ref kt, .ref kl, .ref kp])), (kf, .inl (ty.2.1, 2000, .inr (.inl fF))), (ko, .inl (ty.1, 2000, .inl oF)), (ka, .inl (ty.1, 2000, .inl aF)), (kb, .inl (ty.1, 2000, .inl bF)), (kt, .inl (ty.1, 8, .inl tF)), (kl, .inl (ty.1, 4096, .inl sF))] 0 0 (g_uv (fun w => ∃ (fF2 : Nat → Int64) (oF2 aF2 bF2 sF2 : Nat → Int32), rowOk (oneN op cv (st (rv + 1) - st rv) (st rv) es) fF2 oF2 aF2 bF2 sF2 ∧ w = [(k0, .inr (1, [.int (nI ((oneN op cv (st (rv + 1) - st rv) (st rv) es).length)), .ref kf, .ref ko, .ref ka, .ref kb, .ref kt, .ref kl, .ref kp])), (kf, .inl (ty.2.1, 2000, .inr (.inl fF2))), (ko, .inl (ty.1, 2000, .inl oF2)), (ka, .inl (ty.1, 2000, .inl aF2)), (kb, .inl (ty.1, 2000, .inl bF2)), (kt, .inl (ty.1, 8, .inl tF)), (kl, .inl (ty.1, 4096, .inl sF2))])) := by
  refine g_ofUv (cc := cX2_addOfOne) (nL := 5) (own := RX2) (by decide) rfl rfl g_X0_ok (Nat.le_of_ble_eq_true rfl) ?_
  intro p e s m args below meth c Q A C hA hX hin hR
  refine g_lv (lv' := [(0, .ref k0), (1, .int (nI op)), (2, .int (nI rv))]) [0, 1, 2] rfl ?_
  have hs1 := hs.1
  have hl0 := hw.2.2.2
  have hmn := hs.2.2.2 rv (rv + 1) (by omega) (by omega)
  have hb1 := hs.2.2.1 (rv + 1) (by omega)
  refine g_aload_n C dX2_addOfOne_0 0 rfl rfl ?_
  refine g_get C 0 rfl rfl 5 (by decide) (fun _ h => (List.mem_cons_of_mem _ (List.mem_append_right _ h))) 1 rfl rfl rfl dX2_addOfOne_1 ?_
  refine g_iload_n C dX2_addOfOne_4 2 rfl rfl ?_
  refine g_iconst C dX2_addOfOne_5 (v := (nI 1)) (by decide) ?_
  refine g_iadd C dX2_addOfOne_6 (v := (nI (rv + 1))) (nI_add _ _) ?_
  refine g_iald C (v := (nI (st (rv + 1)))) 5 rfl (by omega) (by omega) (hs.2.1 _ (by omega)) dX2_addOfOne_7 ?_
  refine g_istore_n C dX2_addOfOne_8 rfl (by decide) (lv' := [(3, .int (nI (st (rv + 1)))), (0, .ref k0), (1, .int (nI op)), (2, .int (nI rv))]) rfl ?_
  refine g_aload_n C dX2_addOfOne_9 1 rfl rfl ?_
  refine g_get C 0 rfl rfl 5 (by decide) (fun _ h => (List.mem_cons_of_mem _ (List.mem_append_right _ h))) 1 rfl rfl rfl dX2_addOfOne_10 ?_
  refine g_iload_n C dX2_addOfOne_13 3 rfl rfl ?_
  refine g_iald C (v := (nI (st rv))) 5 rfl (by omega) (by omega) (hs.2.1 _ (by omega)) dX2_addOfOne_14 ?_
  refine g_istore C dX2_addOfOne_15 (by decide) (lv' := [(4, .int (nI (st rv))), (3, .int (nI (st (rv + 1)))), (0, .ref k0), (1, .int (nI op)), (2, .int (nI rv))]) rfl ?_
  have L17 : ∀ (n9 : Nat) (i : Nat) (es1 : List Ent) (fF1 : Nat → Int64) (oF1 aF1 bF1 sF1 : Nat → Int32), st (rv + 1) - i < n9 → (i ≤ st (rv + 1)) → (rowOk es1 fF1 oF1 aF1 bF1 sF1) → (es.length ≤ es1.length) → (oneN op cv (st (rv + 1) - i) i es1 = oneN op cv (st (rv + 1) - st rv) (st rv) es) → gG (g_IU A D s) p l e rm_t_X2_addOfOne s m args below meth c Q 5 0 0 17 [(4, .int (nI i)), (3, .int (nI (st (rv + 1)))), (0, .ref k0), (1, .int (nI op)), (2, .int (nI rv))] [] [(k0, .inr (1, [.int (nI es1.length), .ref kf, .ref ko, .ref ka, .ref kb, .ref kt, .ref kl, .ref kp])), (kf, .inl (ty.2.1, 2000, .inr (.inl fF1))), (ko, .inl (ty.1, 2000, .inl oF1)), (ka, .inl (ty.1, 2000, .inl aF1)), (kb, .inl (ty.1, 2000, .inl bF1)), (kt, .inl (ty.1, 8, .inl tF)), (kl, .inl (ty.1, 4096, .inl sF1))] := by
    intro n9
    induction n9 with
    | zero => intro i es1 fF1 oF1 aF1 bF1 sF1 hn; exact absurd hn (Nat.not_lt_zero _)
    | succ n9 ih17 =>
      intro i es1 fF1 oF1 aF1 bF1 sF1 hn17 hi hw1 hl1 hT
      have hl1b := hw1.2.2.2
      refine g_iload C dX2_addOfOne_17 0 rfl ?_
      refine g_iload_n C dX2_addOfOne_19 1 rfl rfl ?_
      refine g_icmp_geN C dX2_addOfOne_20 (tgt := 56) (by decide) (by omega) (by omega) (fun h20 => ?_) (fun h20 => ?_)
      · skip
        have hE : es1 = oneN op cv (st (rv + 1) - st rv) (st rv) es := by rw [← hT, show st (rv + 1) - i = 0 by omega]; rfl
        refine hR _ _ _ _ _ dX2_addOfOne_56 ?_ (by omega) (by omega)
        rw [← hE]
        exact ⟨_, _, _, _, _, hw1, rfl⟩
      · skip
        refine g_aload_n C dX2_addOfOne_23 2 rfl rfl ?_
        refine g_callPV C ⟨g_X0_ok, trivial⟩ (t_X2_isFull l D ty k0 kf ko ka kb kt kl kp es1.length (by omega)) rfl gX2_addOfOne_X2_isFull 0 (by decide +kernel) rfl ⟨rfl, rfl⟩ ⟨Nat.le_of_ble_eq_true rfl, Nat.le_of_ble_eq_true rfl⟩ (rest := []) (q0 := 0) rfl rfl [0] rfl (Nat.le_of_ble_eq_true rfl) dX2_addOfOne_24 ⟨Nat.le_of_ble_eq_true rfl, Nat.le_of_ble_eq_true rfl⟩ rfl (g_ki (fun r hr => ?_))
        subst hr
        have := bt_lt (flB es1.length)
        refine g_if_neN C dX2_addOfOne_27 (tgt := 56) (by decide) (by omega) (fun h27 => ?_) (fun h27 => ?_)
        · skip
          have hfl := fl_1 h27
          have hE : es1 = oneN op cv (st (rv + 1) - st rv) (st rv) es := by rw [← hT, oneN_full (by omega)]
          refine hR _ _ _ _ _ dX2_addOfOne_56 ?_ (by omega) (by omega)
          rw [← hE]
          exact ⟨_, _, _, _, _, hw1, rfl⟩
        · skip
          refine g_aload_n C dX2_addOfOne_30 2 rfl rfl ?_
          refine g_iload_n C dX2_addOfOne_31 3 rfl rfl ?_
          refine g_aload_n C dX2_addOfOne_32 2 rfl rfl ?_
          refine g_get C 0 rfl rfl 1 (by decide) (fun _ h => (List.mem_cons_of_mem _ (List.mem_append_right _ h))) 2 rfl rfl rfl dX2_addOfOne_33 ?_
          refine g_iload C dX2_addOfOne_36 0 rfl ?_
          refine g_lald C (v := (eF es1 i)) 1 rfl (by omega) (by omega) (hw1.1 i (by omega)).1 dX2_addOfOne_38 ?_
          refine g_lconst C dX2_addOfOne_39 (v := 0) (by decide) ?_
          refine g_callPS C ⟨g_X0_ok, trivial⟩ (t_X0_made l D ty op (by omega) (eF es1 i) 0) rfl gX2_addOfOne_X0_made 3 (by decide +kernel) rfl ⟨rfl, rfl⟩ ⟨Nat.le_of_ble_eq_true rfl, Nat.le_of_ble_eq_true rfl⟩ (rest := [.ref k0]) [] rfl (Nat.le_of_ble_eq_true rfl) dX2_addOfOne_40 ⟨Nat.le_of_ble_eq_true rfl, Nat.le_of_ble_eq_true rfl⟩ rfl (g_kl (fun r hr => ?_))
          subst hr
          refine g_iload_n C dX2_addOfOne_43 3 rfl rfl ?_
          refine g_iload C dX2_addOfOne_44 0 rfl ?_
          refine g_iconst C dX2_addOfOne_46 (v := (-1)) (by decide) ?_
          refine g_callUV C ⟨g_X0_ok, trivial⟩ (t_X2_add l D ty k0 kf ko ka kb kt kl kp es1 fF1 oF1 aF1 bF1 tF sF1 pF hw1 (maF op (eF es1 i) 0) cv (nI op) (nI i) (-1)) rfl gX2_addOfOne_X2_add 4 (by decide +kernel) rfl ⟨rfl, rfl⟩ ⟨Nat.le_of_ble_eq_true rfl, Nat.le_of_ble_eq_true rfl⟩ (rest := []) (q0 := 0) rfl rfl hA [0, 1, 2, 3, 4, 6] [5] rfl rfl rfl (wr := [(kt, .inl (ty.1, 8, .inl tF))]) rfl rfl rfl (Nat.le_of_ble_eq_true rfl) dX2_addOfOne_47 ⟨Nat.le_of_ble_eq_true rfl, Nat.le_of_ble_eq_true rfl⟩ rfl (g_kuv (fun w hr => ?_))
          obtain ⟨fF47, oF47, aF47, bF47, sF47, hw47, rfl⟩ := hr
          have hl47 := addE_len (f := (maF op (eF es1 i) 0)) (c := cv) (o := (nI op)) (a := (nI i)) (b := (-1)) hw1.2.2.2
          refine g_ws (ws' := [(k0, .inr (1, [.int (nI ((addE (maF op (eF es1 i) 0) cv (nI op) (nI i) (-1) es1).length)), .ref kf, .ref ko, .ref ka, .ref kb, .ref kt, .ref kl, .ref kp])), (kf, .inl (ty.2.1, 2000, .inr (.inl fF47))), (ko, .inl (ty.1, 2000, .inl oF47)), (ka, .inl (ty.1, 2000, .inl aF47)), (kb, .inl (ty.1, 2000, .inl bF47)), (kt, .inl (ty.1, 8, .inl tF)), (kl, .inl (ty.1, 4096, .inl sF47))]) [1, 2, 3, 4, 5, 0, 6] rfl rfl rfl ?_
          refine g_iinc C dX2_addOfOne_50 0 rfl (v := (nI (i + 1))) (nI_1 i) (by decide) (lv' := [(4, .int (nI (i + 1))), (3, .int (nI (st (rv + 1)))), (0, .ref k0), (1, .int (nI op)), (2, .int (nI rv))]) rfl ?_
          refine g_goto C dX2_addOfOne_53 (tgt := 17) (by decide) ?_
          exact ih17 (i + 1) (addE (maF op (eF es1 i) 0) cv (nI op) (nI i) (-1) es1) fF47 oF47 aF47 bF47 sF47 (by omega) (by omega) hw47 (by omega) (by rw [show st (rv + 1) - i = (st (rv + 1) - (i + 1)) + 1 by omega] at hT; exact hT)
  exact L17 _ (st rv) es fF oF aF bF sF (Nat.lt_succ_self _) hmn hw (Nat.le_refl _) rfl

abbrev rm_t_X2_addOfTwo : Room := ({ frames := 3, cells := 0, slots := 0, locals := 77 } : Room)
set_option maxHeartbeats 4000000 in
set_option maxRecDepth 100000 in
theorem t_X2_addOfTwo (l : Launch) (D : va_G) (ty : g_T3) (k0 kf ko ka kb kt kl kp : Nat) (es : List Ent) (fF : Nat → Int64) (oF aF bF tF sF pF : Nat → Int32) (hw : rowOk es fF oF aF bF sF) (cm : Nat) (st : Nat → Nat) (hs : stOk st tF cm es.length) (op : Nat) (hop : op < 10) (cv rv : Nat) (hr1 : rv + 1 ≤ cm) : g_U l yX2_addOfTwo wsX2_addOfTwo rm_t_X2_addOfTwo D ty g_X0 [.ref k0, .int (nI op), .int (nI rv)] [(k0, .inr (1, [.int (nI es.length), .ref kf, .ref ko, .ref ka, .ref kb, .ref kt, .ref kl, .ref kp])), (kf, .inl (ty.2.1, 2000, .inr (.inl fF))), (ko, .inl (ty.1, 2000, .inl oF)), (ka, .inl (ty.1, 2000, .inl aF)), (kb, .inl (ty.1, 2000, .inl bF)), (kt, .inl (ty.1, 8, .inl tF)), (kl, .inl (ty.1, 4096, .inl sF))] 0 0 (g_uv (fun w => ∃ (fF2 : Nat → Int64) (oF2 aF2 bF2 sF2 : Nat → Int32), rowOk (twoA op cv st rv (rv + 1) 0 es) fF2 oF2 aF2 bF2 sF2 ∧ w = [(k0, .inr (1, [.int (nI ((twoA op cv st rv (rv + 1) 0 es).length)), .ref kf, .ref ko, .ref ka, .ref kb, .ref kt, .ref kl, .ref kp])), (kf, .inl (ty.2.1, 2000, .inr (.inl fF2))), (ko, .inl (ty.1, 2000, .inl oF2)), (ka, .inl (ty.1, 2000, .inl aF2)), (kb, .inl (ty.1, 2000, .inl bF2)), (kt, .inl (ty.1, 8, .inl tF)), (kl, .inl (ty.1, 4096, .inl sF2))])) := by
  refine g_ofUv (cc := cX2_addOfTwo) (nL := 7) (own := RX2) (by decide) rfl rfl g_X0_ok (Nat.le_of_ble_eq_true rfl) ?_
  intro p e s m args below meth c Q A C hA hX hin hR
  refine g_lv (lv' := [(0, .ref k0), (1, .int (nI op)), (2, .int (nI rv))]) [0, 1, 2] rfl ?_
  have hs1 := hs.1
  have hl0 := hw.2.2.2
  refine g_iconst C dX2_addOfTwo_0 (v := (nI 0)) (by decide) ?_
  refine g_istore_n C dX2_addOfTwo_1 rfl (by decide) (lv' := [(3, .int (nI 0)), (0, .ref k0), (1, .int (nI op)), (2, .int (nI rv))]) rfl ?_
  have L2 : ∀ (n9 : Nat) (a : Nat) (es1 : List Ent) (fF1 : Nat → Int64) (oF1 aF1 bF1 sF1 : Nat → Int32), rv + 1 - a < n9 → (a ≤ rv + 1) → (rowOk es1 fF1 oF1 aF1 bF1 sF1) → (es.length ≤ es1.length) → (twoA op cv st rv (rv + 1 - a) a es1 = twoA op cv st rv (rv + 1) 0 es) → gG (g_IU A D s) p l e rm_t_X2_addOfTwo s m args below meth c Q 7 0 0 2 [(3, .int (nI a)), (0, .ref k0), (1, .int (nI op)), (2, .int (nI rv))] [] [(k0, .inr (1, [.int (nI es1.length), .ref kf, .ref ko, .ref ka, .ref kb, .ref kt, .ref kl, .ref kp])), (kf, .inl (ty.2.1, 2000, .inr (.inl fF1))), (ko, .inl (ty.1, 2000, .inl oF1)), (ka, .inl (ty.1, 2000, .inl aF1)), (kb, .inl (ty.1, 2000, .inl bF1)), (kt, .inl (ty.1, 8, .inl tF)), (kl, .inl (ty.1, 4096, .inl sF1))] := by
    intro n9
    induction n9 with
    | zero => intro a es1 fF1 oF1 aF1 bF1 sF1 hn; exact absurd hn (Nat.not_lt_zero _)
    | succ n9 ih2 =>
      intro a es1 fF1 oF1 aF1 bF1 sF1 hn2 ha hw1 hl1 hT
      refine g_iload_n C dX2_addOfTwo_2 0 rfl rfl ?_
      refine g_iload_n C dX2_addOfTwo_3 3 rfl rfl ?_
      refine g_icmp_gtN C dX2_addOfTwo_4 (tgt := 116) (by decide) (by omega) (by omega) (fun h4 => ?_) (fun h4 => ?_)
      · skip
        have hE : es1 = twoA op cv st rv (rv + 1) 0 es := by rw [← hT, show rv + 1 - a = 0 by omega]; rfl
        refine hR _ _ _ _ _ dX2_addOfTwo_116 ?_ (by omega) (by omega)
        rw [← hE]
        exact ⟨_, _, _, _, _, hw1, rfl⟩
      · skip
        have hmn := hs.2.2.2 a (a + 1) (by omega) (by omega)
        have hmn2 := hs.2.2.2 (rv - a) (rv - a + 1) (by omega) (by omega)
        have hb1 := hs.2.2.1 (a + 1) (by omega)
        have hb2 := hs.2.2.1 (rv - a + 1) (by omega)
        have hb3 := hs.2.2.1 a (by omega)
        refine g_aload_n C dX2_addOfTwo_7 1 rfl rfl ?_
        refine g_get C 0 rfl rfl 5 (by decide) (fun _ h => (List.mem_cons_of_mem _ (List.mem_append_right _ h))) 1 rfl rfl rfl dX2_addOfTwo_8 ?_
        refine g_iload_n C dX2_addOfTwo_11 0 rfl rfl ?_
        refine g_iald C (v := (nI (st a))) 5 rfl (by omega) (by omega) (hs.2.1 _ (by omega)) dX2_addOfTwo_12 ?_
        refine g_istore C dX2_addOfTwo_13 (by decide) (lv' := [(4, .int (nI (st a))), (3, .int (nI a)), (0, .ref k0), (1, .int (nI op)), (2, .int (nI rv))]) rfl ?_
        have L15 : ∀ (n9 : Nat) (i : Nat) (es3 : List Ent) (fF3 : Nat → Int64) (oF3 aF3 bF3 sF3 : Nat → Int32), st (a + 1) - i < n9 → (i ≤ st (a + 1)) → (rowOk es3 fF3 oF3 aF3 bF3 sF3) → (es.length ≤ es3.length) → (twoA op cv st rv (rv - a) (a + 1) (twoI op cv (st (rv - a)) (st (rv - a + 1)) (st (a + 1) - i) i es3) = twoA op cv st rv (rv + 1) 0 es) → gG (g_IU A D s) p l e rm_t_X2_addOfTwo s m args below meth c Q 7 0 0 15 [(4, .int (nI i)), (3, .int (nI a)), (0, .ref k0), (1, .int (nI op)), (2, .int (nI rv))] [] [(k0, .inr (1, [.int (nI es3.length), .ref kf, .ref ko, .ref ka, .ref kb, .ref kt, .ref kl, .ref kp])), (kf, .inl (ty.2.1, 2000, .inr (.inl fF3))), (ko, .inl (ty.1, 2000, .inl oF3)), (ka, .inl (ty.1, 2000, .inl aF3)), (kb, .inl (ty.1, 2000, .inl bF3)), (kt, .inl (ty.1, 8, .inl tF)), (kl, .inl (ty.1, 4096, .inl sF3))] := by
          intro n9
          induction n9 with
          | zero => intro i es3 fF3 oF3 aF3 bF3 sF3 hn; exact absurd hn (Nat.not_lt_zero _)
          | succ n9 ih15 =>
            intro i es3 fF3 oF3 aF3 bF3 sF3 hn15 hi hw3 hl3 hT2
            have hl3b := hw3.2.2.2
            refine g_iload C dX2_addOfTwo_15 0 rfl ?_
            refine g_aload_n C dX2_addOfTwo_17 2 rfl rfl ?_
            refine g_get C 0 rfl rfl 5 (by decide) (fun _ h => (List.mem_cons_of_mem _ (List.mem_append_right _ h))) 1 rfl rfl rfl dX2_addOfTwo_18 ?_
            refine g_iload_n C dX2_addOfTwo_21 1 rfl rfl ?_
            refine g_iconst C dX2_addOfTwo_22 (v := (nI 1)) (by decide) ?_
            refine g_iadd C dX2_addOfTwo_23 (v := (nI (a + 1))) (nI_add _ _) ?_
            refine g_iald C (v := (nI (st (a + 1)))) 5 rfl (by omega) (by omega) (hs.2.1 _ (by omega)) dX2_addOfTwo_24 ?_
            refine g_icmp_geN C dX2_addOfTwo_25 (tgt := 110) (by decide) (by omega) (by omega) (fun h25 => ?_) (fun h25 => ?_)
            · skip
              have hT3 : twoA op cv st rv (rv - a) (a + 1) es3 = twoA op cv st rv (rv + 1) 0 es := by rw [show st (a + 1) - i = 0 by omega] at hT2; exact hT2
              refine g_iinc C dX2_addOfTwo_110 1 rfl (v := (nI (a + 1))) (nI_1 a) (by decide) (lv' := [(3, .int (nI (a + 1))), (4, .int (nI i)), (0, .ref k0), (1, .int (nI op)), (2, .int (nI rv))]) rfl ?_
              refine g_goto C dX2_addOfTwo_113 (tgt := 2) (by decide) ?_
              refine g_lv [0, 2, 3, 4] rfl ?_
              exact ih2 (a + 1) es3 fF3 oF3 aF3 bF3 sF3 (by omega) (by omega) hw3 (by omega) (by rw [show rv + 1 - (a + 1) = rv - a by omega]; exact hT3)
            · skip
              refine g_aload_n C dX2_addOfTwo_28 2 rfl rfl ?_
              refine g_callPV C ⟨g_X0_ok, trivial⟩ (t_X2_isFull l D ty k0 kf ko ka kb kt kl kp es3.length (by omega)) rfl gX2_addOfTwo_X2_isFull 0 (by decide +kernel) rfl ⟨rfl, rfl⟩ ⟨Nat.le_of_ble_eq_true rfl, Nat.le_of_ble_eq_true rfl⟩ (rest := []) (q0 := 0) rfl rfl [0] rfl (Nat.le_of_ble_eq_true rfl) dX2_addOfTwo_29 ⟨Nat.le_of_ble_eq_true rfl, Nat.le_of_ble_eq_true rfl⟩ rfl (g_ki (fun r hr => ?_))
              subst hr
              have := bt_lt (flB es3.length)
              refine g_if_neN C dX2_addOfTwo_32 (tgt := 110) (by decide) (by omega) (fun h32 => ?_) (fun h32 => ?_)
              · skip
                have hfl := fl_1 h32
                have hT3 : twoA op cv st rv (rv - a) (a + 1) es3 = twoA op cv st rv (rv + 1) 0 es := by rw [twoI_full (by omega)] at hT2; exact hT2
                refine g_iinc C dX2_addOfTwo_110 1 rfl (v := (nI (a + 1))) (nI_1 a) (by decide) (lv' := [(3, .int (nI (a + 1))), (4, .int (nI i)), (0, .ref k0), (1, .int (nI op)), (2, .int (nI rv))]) rfl ?_
                refine g_goto C dX2_addOfTwo_113 (tgt := 2) (by decide) ?_
                refine g_lv [0, 2, 3, 4] rfl ?_
                exact ih2 (a + 1) es3 fF3 oF3 aF3 bF3 sF3 (by omega) (by omega) hw3 (by omega) (by rw [show rv + 1 - (a + 1) = rv - a by omega]; exact hT3)
              · skip
                refine g_aload_n C dX2_addOfTwo_35 2 rfl rfl ?_
                refine g_get C 0 rfl rfl 5 (by decide) (fun _ h => (List.mem_cons_of_mem _ (List.mem_append_right _ h))) 1 rfl rfl rfl dX2_addOfTwo_36 ?_
                refine g_iload_n C dX2_addOfTwo_39 4 rfl rfl ?_
                refine g_iload_n C dX2_addOfTwo_40 1 rfl rfl ?_
                refine g_isub C dX2_addOfTwo_41 (v := (nI (rv - a))) (pk_sub (by omega)) ?_
                refine g_iconst C dX2_addOfTwo_42 (v := (nI 1)) (by decide) ?_
                refine g_iadd C dX2_addOfTwo_43 (v := (nI ((rv - a) + 1))) (nI_add _ _) ?_
                refine g_iald C (v := (nI (st (rv - a + 1)))) 5 rfl (by omega) (by omega) (hs.2.1 _ (by omega)) dX2_addOfTwo_44 ?_
                refine g_istore C dX2_addOfTwo_45 (by decide) (lv' := [(5, .int (nI (st (rv - a + 1)))), (4, .int (nI i)), (3, .int (nI a)), (0, .ref k0), (1, .int (nI op)), (2, .int (nI rv))]) rfl ?_
                refine g_aload_n C dX2_addOfTwo_47 3 rfl rfl ?_
                refine g_get C 0 rfl rfl 5 (by decide) (fun _ h => (List.mem_cons_of_mem _ (List.mem_append_right _ h))) 1 rfl rfl rfl dX2_addOfTwo_48 ?_
                refine g_iload_n C dX2_addOfTwo_51 5 rfl rfl ?_
                refine g_iload_n C dX2_addOfTwo_52 2 rfl rfl ?_
                refine g_isub C dX2_addOfTwo_53 (v := (nI (rv - a))) (pk_sub (by omega)) ?_
                refine g_iald C (v := (nI (st (rv - a)))) 5 rfl (by omega) (by omega) (hs.2.1 _ (by omega)) dX2_addOfTwo_54 ?_
                refine g_istore C dX2_addOfTwo_55 (by decide) (lv' := [(6, .int (nI (st (rv - a)))), (5, .int (nI (st (rv - a + 1)))), (4, .int (nI i)), (3, .int (nI a)), (0, .ref k0), (1, .int (nI op)), (2, .int (nI rv))]) rfl ?_
                have L57 : ∀ (n9 : Nat) (j : Nat) (es4 : List Ent) (fF4 : Nat → Int64) (oF4 aF4 bF4 sF4 : Nat → Int32), st (rv - a + 1) - j < n9 → (j ≤ st (rv - a + 1)) → (rowOk es4 fF4 oF4 aF4 bF4 sF4) → (es.length ≤ es4.length) → (twoA op cv st rv (rv - a) (a + 1) (twoI op cv (st (rv - a)) (st (rv - a + 1)) (st (a + 1) - (i + 1)) (i + 1) (twoJ op cv i (st (rv - a + 1) - j) j es4)) = twoA op cv st rv (rv + 1) 0 es) → gG (g_IU A D s) p l e rm_t_X2_addOfTwo s m args below meth c Q 7 0 0 57 [(6, .int (nI j)), (5, .int (nI (st (rv - a + 1)))), (4, .int (nI i)), (3, .int (nI a)), (0, .ref k0), (1, .int (nI op)), (2, .int (nI rv))] [] [(k0, .inr (1, [.int (nI es4.length), .ref kf, .ref ko, .ref ka, .ref kb, .ref kt, .ref kl, .ref kp])), (kf, .inl (ty.2.1, 2000, .inr (.inl fF4))), (ko, .inl (ty.1, 2000, .inl oF4)), (ka, .inl (ty.1, 2000, .inl aF4)), (kb, .inl (ty.1, 2000, .inl bF4)), (kt, .inl (ty.1, 8, .inl tF)), (kl, .inl (ty.1, 4096, .inl sF4))] := by
                  intro n9
                  induction n9 with
                  | zero => intro j es4 fF4 oF4 aF4 bF4 sF4 hn; exact absurd hn (Nat.not_lt_zero _)
                  | succ n9 ih57 =>
                    intro j es4 fF4 oF4 aF4 bF4 sF4 hn57 hj hw4 hl4 hT5
                    have hl4b := hw4.2.2.2
                    refine g_iload C dX2_addOfTwo_57 0 rfl ?_
                    refine g_iload C dX2_addOfTwo_59 1 rfl ?_
                    refine g_icmp_geN C dX2_addOfTwo_61 (tgt := 104) (by decide) (by omega) (by omega) (fun h61 => ?_) (fun h61 => ?_)
                    · skip
                      have hT4 : twoA op cv st rv (rv - a) (a + 1) (twoI op cv (st (rv - a)) (st (rv - a + 1)) (st (a + 1) - (i + 1)) (i + 1) es4) = twoA op cv st rv (rv + 1) 0 es := by rw [show st (rv - a + 1) - j = 0 by omega] at hT5; exact hT5
                      refine g_iinc C dX2_addOfTwo_104 2 rfl (v := (nI (i + 1))) (nI_1 i) (by decide) (lv' := [(4, .int (nI (i + 1))), (6, .int (nI j)), (5, .int (nI (st (rv - a + 1)))), (3, .int (nI a)), (0, .ref k0), (1, .int (nI op)), (2, .int (nI rv))]) rfl ?_
                      refine g_goto C dX2_addOfTwo_107 (tgt := 15) (by decide) ?_
                      refine g_lv [0, 3, 4, 5, 6] rfl ?_
                      exact ih15 (i + 1) es4 fF4 oF4 aF4 bF4 sF4 (by omega) (by omega) hw4 (by omega) hT4
                    · skip
                      refine g_aload_n C dX2_addOfTwo_64 4 rfl rfl ?_
                      refine g_callPV C ⟨g_X0_ok, trivial⟩ (t_X2_isFull l D ty k0 kf ko ka kb kt kl kp es4.length (by omega)) rfl gX2_addOfTwo_X2_isFull 0 (by decide +kernel) rfl ⟨rfl, rfl⟩ ⟨Nat.le_of_ble_eq_true rfl, Nat.le_of_ble_eq_true rfl⟩ (rest := []) (q0 := 0) rfl rfl [0] rfl (Nat.le_of_ble_eq_true rfl) dX2_addOfTwo_65 ⟨Nat.le_of_ble_eq_true rfl, Nat.le_of_ble_eq_true rfl⟩ rfl (g_ki (fun r hr => ?_))
                      subst hr
                      have := bt_lt (flB es4.length)
                      refine g_if_neN C dX2_addOfTwo_68 (tgt := 104) (by decide) (by omega) (fun h68 => ?_) (fun h68 => ?_)
                      · skip
                        have hfl := fl_1 h68
                        have hT4 : twoA op cv st rv (rv - a) (a + 1) (twoI op cv (st (rv - a)) (st (rv - a + 1)) (st (a + 1) - (i + 1)) (i + 1) es4) = twoA op cv st rv (rv + 1) 0 es := by rw [twoJ_full (by omega)] at hT5; exact hT5
                        refine g_iinc C dX2_addOfTwo_104 2 rfl (v := (nI (i + 1))) (nI_1 i) (by decide) (lv' := [(4, .int (nI (i + 1))), (6, .int (nI j)), (5, .int (nI (st (rv - a + 1)))), (3, .int (nI a)), (0, .ref k0), (1, .int (nI op)), (2, .int (nI rv))]) rfl ?_
                        refine g_goto C dX2_addOfTwo_107 (tgt := 15) (by decide) ?_
                        refine g_lv [0, 3, 4, 5, 6] rfl ?_
                        exact ih15 (i + 1) es4 fF4 oF4 aF4 bF4 sF4 (by omega) (by omega) hw4 (by omega) hT4
                      · skip
                        refine g_aload_n C dX2_addOfTwo_71 4 rfl rfl ?_
                        refine g_iload_n C dX2_addOfTwo_72 5 rfl rfl ?_
                        refine g_aload_n C dX2_addOfTwo_73 4 rfl rfl ?_
                        refine g_get C 0 rfl rfl 1 (by decide) (fun _ h => (List.mem_cons_of_mem _ (List.mem_append_right _ h))) 2 rfl rfl rfl dX2_addOfTwo_74 ?_
                        refine g_iload C dX2_addOfTwo_77 2 rfl ?_
                        refine g_lald C (v := (eF es4 i)) 1 rfl (by omega) (by omega) (hw4.1 i (by omega)).1 dX2_addOfTwo_79 ?_
                        refine g_aload_n C dX2_addOfTwo_80 4 rfl rfl ?_
                        refine g_get C 0 rfl rfl 1 (by decide) (fun _ h => (List.mem_cons_of_mem _ (List.mem_append_right _ h))) 2 rfl rfl rfl dX2_addOfTwo_81 ?_
                        refine g_iload C dX2_addOfTwo_84 0 rfl ?_
                        refine g_lald C (v := (eF es4 j)) 1 rfl (by omega) (by omega) (hw4.1 j (by omega)).1 dX2_addOfTwo_86 ?_
                        refine g_callPS C ⟨g_X0_ok, trivial⟩ (t_X0_made l D ty op (by omega) (eF es4 i) (eF es4 j)) rfl gX2_addOfTwo_X0_made 3 (by decide +kernel) rfl ⟨rfl, rfl⟩ ⟨Nat.le_of_ble_eq_true rfl, Nat.le_of_ble_eq_true rfl⟩ (rest := [.ref k0]) [] rfl (Nat.le_of_ble_eq_true rfl) dX2_addOfTwo_87 ⟨Nat.le_of_ble_eq_true rfl, Nat.le_of_ble_eq_true rfl⟩ rfl (g_kl (fun r hr => ?_))
                        subst hr
                        refine g_iload_n C dX2_addOfTwo_90 5 rfl rfl ?_
                        refine g_iload C dX2_addOfTwo_91 2 rfl ?_
                        refine g_iload C dX2_addOfTwo_93 0 rfl ?_
                        refine g_callUV C ⟨g_X0_ok, trivial⟩ (t_X2_add l D ty k0 kf ko ka kb kt kl kp es4 fF4 oF4 aF4 bF4 tF sF4 pF hw4 (maF op (eF es4 i) (eF es4 j)) cv (nI op) (nI i) (nI j)) rfl gX2_addOfTwo_X2_add 4 (by decide +kernel) rfl ⟨rfl, rfl⟩ ⟨Nat.le_of_ble_eq_true rfl, Nat.le_of_ble_eq_true rfl⟩ (rest := []) (q0 := 0) rfl rfl hA [0, 1, 2, 3, 4, 6] [5] rfl rfl rfl (wr := [(kt, .inl (ty.1, 8, .inl tF))]) rfl rfl rfl (Nat.le_of_ble_eq_true rfl) dX2_addOfTwo_95 ⟨Nat.le_of_ble_eq_true rfl, Nat.le_of_ble_eq_true rfl⟩ rfl (g_kuv (fun w hr => ?_))
                        obtain ⟨fF95, oF95, aF95, bF95, sF95, hw95, rfl⟩ := hr
                        have hl95 := addE_len (f := (maF op (eF es4 i) (eF es4 j))) (c := cv) (o := (nI op)) (a := (nI i)) (b := (nI j)) hw4.2.2.2
                        refine g_ws (ws' := [(k0, .inr (1, [.int (nI ((addE (maF op (eF es4 i) (eF es4 j)) cv (nI op) (nI i) (nI j) es4).length)), .ref kf, .ref ko, .ref ka, .ref kb, .ref kt, .ref kl, .ref kp])), (kf, .inl (ty.2.1, 2000, .inr (.inl fF95))), (ko, .inl (ty.1, 2000, .inl oF95)), (ka, .inl (ty.1, 2000, .inl aF95)), (kb, .inl (ty.1, 2000, .inl bF95)), (kt, .inl (ty.1, 8, .inl tF)), (kl, .inl (ty.1, 4096, .inl sF95))]) [1, 2, 3, 4, 5, 0, 6] rfl rfl rfl ?_
                        refine g_iinc C dX2_addOfTwo_98 0 rfl (v := (nI (j + 1))) (nI_1 j) (by decide) (lv' := [(6, .int (nI (j + 1))), (5, .int (nI (st (rv - a + 1)))), (4, .int (nI i)), (3, .int (nI a)), (0, .ref k0), (1, .int (nI op)), (2, .int (nI rv))]) rfl ?_
                        refine g_goto C dX2_addOfTwo_101 (tgt := 57) (by decide) ?_
                        exact ih57 (j + 1) (addE (maF op (eF es4 i) (eF es4 j)) cv (nI op) (nI i) (nI j) es4) fF95 oF95 aF95 bF95 sF95 (by omega) (by omega) hw95 (by omega) (by rw [show st (rv - a + 1) - j = (st (rv - a + 1) - (j + 1)) + 1 by omega] at hT5; exact hT5)
                exact L57 _ (st (rv - a)) es3 fF3 oF3 aF3 bF3 sF3 (Nat.lt_succ_self _) hmn2 hw3 hl3 (by rw [show st (a + 1) - i = (st (a + 1) - (i + 1)) + 1 by omega] at hT2; exact hT2)
        exact L15 _ (st a) es1 fF1 oF1 aF1 bF1 sF1 (Nat.lt_succ_self _) hmn hw1 hl1 (by rw [show rv + 1 - a = (rv - a) + 1 by omega] at hT; exact hT)
  exact L2 _ 0 es fF oF aF bF sF (Nat.lt_succ_self _) (by omega) hw (Nat.le_refl _) rfl


abbrev rm_t_X5_search : Room := ({ frames := 6, cells := 1, slots := 6, locals := 150 } : Room)
set_option maxHeartbeats 4000000 in
set_option maxRecDepth 100000 in
theorem t_X5_search (l : Launch) (hfl : l.stackTraces = false) (D : va_G) (ty : g_T3) (x0 s0 k0 p0 t0 : Nat) (kf ko ka kb kt kl kp : Nat) (es : List Ent) (fF : Nat → Int64) (oF aF bF tF sF pF : Nat → Int32) (hw : rowOk es fF oF aF bF sF) (sp sa sc : Nat) (p2 : Nat → Nat) (al cs : Nat → Bool) (hp : (∀ k, k < 10 → 1 ≤ p2 k ∧ p2 k ≤ 5) ∧ p2 10 ≤ 5) (bg : Int32) : g_T l yX5_search wsX5_search rm_t_X5_search D ty g_XT [.ref x0, .int bg] [(x0, .inr (4, [.ref s0, .ref k0, .ref p0, .ref t0])), (k0, .inr (1, [.int (nI es.length), .ref kf, .ref ko, .ref ka, .ref kb, .ref kt, .ref kl, .ref kp])), (kf, .inl (ty.2.1, 2000, .inr (.inl fF))), (ko, .inl (ty.1, 2000, .inl oF)), (ka, .inl (ty.1, 2000, .inl aF)), (kb, .inl (ty.1, 2000, .inl bF)), (kt, .inl (ty.1, 8, .inl tF)), (kl, .inl (ty.1, 4096, .inl sF)), (s0, .inr (2, [.ref sp, .ref sa, .ref sc])), (sp, .inl (ty.1, 11, .inl (zN p2))), (sa, .inl (ty.2.2, 10, .inl (zB al))), (sc, .inl (ty.2.2, 16, .inl (zB cs)))] 1 6 (g_ui (fun r w => ∃ k, k ≤ 6 ∧ bg = nI k ∧ r = nI (sq p2 al cs k 8).2.length ∧ ∃ (fF2 : Nat → Int64) (oF2 aF2 bF2 tF2 sF2 : Nat → Int32), rowOk (sq p2 al cs k 8).2 fF2 oF2 aF2 bF2 sF2 ∧ (∀ j, j < 8 → tF2 j = nI ((sq p2 al cs k 8).1 j)) ∧ w = [(x0, .inr (4, [.ref s0, .ref k0, .ref p0, .ref t0])), (k0, .inr (1, [.int (nI ((sq p2 al cs k 8).2.length)), .ref kf, .ref ko, .ref ka, .ref kb, .ref kt, .ref kl, .ref kp])), (kf, .inl (ty.2.1, 2000, .inr (.inl fF2))), (ko, .inl (ty.1, 2000, .inl oF2)), (ka, .inl (ty.1, 2000, .inl aF2)), (kb, .inl (ty.1, 2000, .inl bF2)), (kt, .inl (ty.1, 8, .inl tF2)), (kl, .inl (ty.1, 4096, .inl sF2)), (s0, .inr (2, [.ref sp, .ref sa, .ref sc])), (sp, .inl (ty.1, 11, .inl (zN p2))), (sa, .inl (ty.2.2, 10, .inl (zB al))), (sc, .inl (ty.2.2, 16, .inl (zB cs)))])) (fun E => (E = x_IA ∧ (bg.toInt < 0 ∨ 6 < bg.toInt))) := by
  refine g_ofTi hfl (cc := cX5_search) (nL := 2) (by decide) rfl rfl (Nat.le_of_ble_eq_true rfl) ⟨Nat.le_of_ble_eq_true rfl, Nat.le_of_ble_eq_true rfl, Nat.le_of_ble_eq_true rfl, Nat.le_of_ble_eq_true rfl, Nat.le_of_ble_eq_true rfl, Nat.le_of_ble_eq_true rfl⟩ ?_
  intro p e s m args below meth c Q A C hA hX hin hTh hR
  refine g_lv (lv' := [(0, .ref x0), (1, .int bg)]) [0, 1] rfl ?_
  refine g_iload_n C dX5_search_0 1 rfl rfl ?_
  refine g_callPS C ⟨g_X0_ok, trivial⟩ (t_X5_isCost l D ty bg) rfl gX5_search_X5_isCost 1 (by decide +kernel) rfl ⟨rfl, rfl⟩ ⟨Nat.le_of_ble_eq_true rfl, Nat.le_of_ble_eq_true rfl⟩ (rest := []) [] rfl (Nat.le_of_ble_eq_true rfl) dX5_search_1 ⟨Nat.le_of_ble_eq_true rfl, Nat.le_of_ble_eq_true rfl⟩ rfl (g_ki (fun r hr => ?_))
  subst hr
  have := bt_lt (inB bg (nI 0) (nI 6))
  refine g_if_neN C dX5_search_4 (tgt := 17) (by decide) (by omega) (fun h4 => ?_) (fun h4 => ?_)
  · skip
    obtain ⟨k, hk, rfl⟩ := in_nI (by decide) h4
    refine g_aload_n C dX5_search_17 0 rfl rfl ?_
    refine g_get C 0 rfl rfl 1 (by decide) (fun _ h => (List.mem_cons_of_mem _ (List.mem_append_left _ (List.mem_append_left _ (List.mem_append_left _ (List.mem_append_right _ h)))))) 3 rfl rfl rfl dX5_search_18 ?_
    refine g_iload_n C dX5_search_21 1 rfl rfl ?_
    refine g_aload_n C dX5_search_22 0 rfl rfl ?_
    refine g_get C 0 rfl rfl 0 (by decide) (fun _ h => (List.mem_cons_of_mem _ (List.mem_append_left _ (List.mem_append_left _ (List.mem_append_left _ (List.mem_append_right _ h)))))) 4 rfl rfl rfl dX5_search_23 ?_
    refine g_callUV C ⟨g_XN_ok, hX.2.1⟩ (t_X2_make l D ty k0 kf ko ka kb kt kl kp es fF oF aF bF tF sF pF hw s0 sp sa sc p2 al cs hp k (by omega)) rfl gX5_search_X2_make 2 (by decide +kernel) rfl ⟨rfl, rfl⟩ ⟨Nat.le_of_ble_eq_true rfl, Nat.le_of_ble_eq_true rfl⟩ (rest := []) (q0 := 1) rfl rfl hA [1, 2, 3, 4, 5, 6, 7, 8, 9, 10, 11] [0] rfl rfl rfl (wr := [(x0, .inr (4, [.ref s0, .ref k0, .ref p0, .ref t0]))]) rfl rfl rfl (Nat.le_of_ble_eq_true rfl) dX5_search_26 ⟨Nat.le_of_ble_eq_true rfl, Nat.le_of_ble_eq_true rfl⟩ rfl (g_kuv (fun w hr => ?_))
    obtain ⟨fF26, oF26, aF26, bF26, tF26, sF26, hw26, ht26, rfl⟩ := hr
    refine g_ws (ws' := [(x0, .inr (4, [.ref s0, .ref k0, .ref p0, .ref t0])), (k0, .inr (1, [.int (nI ((sq p2 al cs k 8).2.length)), .ref kf, .ref ko, .ref ka, .ref kb, .ref kt, .ref kl, .ref kp])), (kf, .inl (ty.2.1, 2000, .inr (.inl fF26))), (ko, .inl (ty.1, 2000, .inl oF26)), (ka, .inl (ty.1, 2000, .inl aF26)), (kb, .inl (ty.1, 2000, .inl bF26)), (kt, .inl (ty.1, 8, .inl tF26)), (kl, .inl (ty.1, 4096, .inl sF26)), (s0, .inr (2, [.ref sp, .ref sa, .ref sc])), (sp, .inl (ty.1, 11, .inl (zN p2))), (sa, .inl (ty.2.2, 10, .inl (zB al))), (sc, .inl (ty.2.2, 16, .inl (zB cs)))]) [0, 1, 2, 3, 4, 5, 6, 7, 8, 9, 10, 11] rfl rfl rfl ?_
    refine g_aload_n C dX5_search_29 0 rfl rfl ?_
    refine g_get C 0 rfl rfl 1 (by decide) (fun _ h => (List.mem_cons_of_mem _ (List.mem_append_left _ (List.mem_append_left _ (List.mem_append_left _ (List.mem_append_right _ h)))))) 3 rfl rfl rfl dX5_search_30 ?_
    refine g_get C 1 rfl rfl 0 (by decide) (fun _ h => (List.mem_cons_of_mem _ (List.mem_append_left _ (List.mem_append_left _ (List.mem_append_right _ h))))) 5 rfl rfl rfl dX5_search_33 ?_
    refine hR _ _ _ _ _ _ dX5_search_36 ?_ (by omega) (by omega)
    exact ⟨k, hk, rfl, rfl, _, _, _, _, _, _, hw26, ht26, rfl⟩
  · skip
    have hno := in_no (by decide) h4
    exact hTh 1 5 7 56 1 2 _ _ (by decide) (by decide) (⟨rfl, by omega⟩) rfl rfl (fun _ h => (List.mem_cons_of_mem _ (List.mem_append_right _ h))) dX5_search_7 dX5_search_10 dX5_search_11 dX5_search_13 dX5_search_16 rfl


abbrev rm_t_X5_ofCost : Room := ({ frames := 6, cells := 1, slots := 6, locals := 82 } : Room)
set_option maxHeartbeats 4000000 in
set_option maxRecDepth 100000 in
theorem t_X5_ofCost (l : Launch) (hfl : l.stackTraces = false) (D : va_G) (ty : g_T3) (x0 s0 p0 t0 : Nat) (k0 kf ko ka kb kt kl kp : Nat) (n : Nat) (hn : n ≤ 2000) (tF : Nat → Int32) (st : Nat → Nat) (ht : ∀ j, j < 8 → tF j = nI (st j)) (o : Int32) : g_T l yX5_ofCost wsX5_ofCost rm_t_X5_ofCost D ty g_XT [.ref x0, .int o] [(x0, .inr (4, [.ref s0, .ref k0, .ref p0, .ref t0])), (k0, .inr (1, [.int (nI n), .ref kf, .ref ko, .ref ka, .ref kb, .ref kt, .ref kl, .ref kp])), (kt, .inl (ty.1, 8, .inl tF))] 1 6 (g_ui (fun r w => ∃ k, k ≤ 6 ∧ o = nI k ∧ r = nI (st (k + 1)) - nI (st k) ∧ w = [(x0, .inr (4, [.ref s0, .ref k0, .ref p0, .ref t0])), (k0, .inr (1, [.int (nI n), .ref kf, .ref ko, .ref ka, .ref kb, .ref kt, .ref kl, .ref kp])), (kt, .inl (ty.1, 8, .inl tF))])) (fun E => (E = x_IA ∧ (o.toInt < 0 ∨ 6 < o.toInt))) := by
  refine g_ofTi hfl (cc := cX5_ofCost) (nL := 2) (by decide) rfl rfl (Nat.le_of_ble_eq_true rfl) ⟨Nat.le_of_ble_eq_true rfl, Nat.le_of_ble_eq_true rfl, Nat.le_of_ble_eq_true rfl, Nat.le_of_ble_eq_true rfl, Nat.le_of_ble_eq_true rfl, Nat.le_of_ble_eq_true rfl⟩ ?_
  intro p e s m args below meth c Q A C hA hX hin hTh hR
  refine g_lv (lv' := [(0, .ref x0), (1, .int o)]) [0, 1] rfl ?_
  refine g_iload_n C dX5_ofCost_0 1 rfl rfl ?_
  refine g_callPS C ⟨g_X0_ok, trivial⟩ (t_X5_isCost l D ty o) rfl gX5_ofCost_X5_isCost 1 (by decide +kernel) rfl ⟨rfl, rfl⟩ ⟨Nat.le_of_ble_eq_true rfl, Nat.le_of_ble_eq_true rfl⟩ (rest := []) [] rfl (Nat.le_of_ble_eq_true rfl) dX5_ofCost_1 ⟨Nat.le_of_ble_eq_true rfl, Nat.le_of_ble_eq_true rfl⟩ rfl (g_ki (fun r hr => ?_))
  subst hr
  have := bt_lt (inB o (nI 0) (nI 6))
  refine g_if_neN C dX5_ofCost_4 (tgt := 17) (by decide) (by omega) (fun h4 => ?_) (fun h4 => ?_)
  · skip
    obtain ⟨k, hk, rfl⟩ := in_nI (by decide) h4
    refine g_aload_n C dX5_ofCost_17 0 rfl rfl ?_
    refine g_get C 0 rfl rfl 1 (by decide) (fun _ h => (List.mem_cons_of_mem _ (List.mem_append_left _ (List.mem_append_left _ (List.mem_append_right _ h))))) 3 rfl rfl rfl dX5_ofCost_18 ?_
    refine g_iload_n C dX5_ofCost_21 1 rfl rfl ?_
    refine g_callPV C ⟨g_X0_ok, trivial⟩ (t_X2_countOfCost l D ty k0 kf ko ka kb kt kl kp n hn tF st ht k (by omega)) rfl gX5_ofCost_X2_countOfCost 1 (by decide +kernel) rfl ⟨rfl, rfl⟩ ⟨Nat.le_of_ble_eq_true rfl, Nat.le_of_ble_eq_true rfl⟩ (rest := []) (q0 := 1) rfl rfl [1, 2] rfl (Nat.le_of_ble_eq_true rfl) dX5_ofCost_22 ⟨Nat.le_of_ble_eq_true rfl, Nat.le_of_ble_eq_true rfl⟩ rfl (g_ki (fun r hr => ?_))
    subst hr
    refine hR _ _ _ _ _ _ dX5_ofCost_25 ?_ (by omega) (by omega)
    exact ⟨k, hk, rfl, rfl, rfl⟩
  · skip
    have hno := in_no (by decide) h4
    exact hTh 1 6 7 56 1 2 _ _ (by decide) (by decide) (⟨rfl, by omega⟩) rfl rfl (fun _ h => (List.mem_cons_of_mem _ (List.mem_append_right _ h))) dX5_ofCost_7 dX5_ofCost_10 dX5_ofCost_11 dX5_ofCost_13 dX5_ofCost_16 rfl

abbrev rm_t_X5_function : Room := ({ frames := 6, cells := 1, slots := 6, locals := 82 } : Room)
set_option maxHeartbeats 4000000 in
set_option maxRecDepth 100000 in
theorem t_X5_function (l : Launch) (hfl : l.stackTraces = false) (D : va_G) (ty : g_T3) (x0 s0 p0 t0 : Nat) (k0 kf ko ka kb kt kl kp : Nat) (es : List Ent) (fF : Nat → Int64) (oF aF bF tF sF pF : Nat → Int32) (hw : rowOk es fF oF aF bF sF) (en : Int32) : g_T l yX5_function wsX5_function rm_t_X5_function D ty g_XT [.ref x0, .int en] [(x0, .inr (4, [.ref s0, .ref k0, .ref p0, .ref t0])), (k0, .inr (1, [.int (nI es.length), .ref kf, .ref ko, .ref ka, .ref kb, .ref kt, .ref kl, .ref kp])), (kf, .inl (ty.2.1, 2000, .inr (.inl fF)))] 1 6 (g_ul (fun r w => ∃ k, k < es.length ∧ en = nI k ∧ r = eF es k ∧ w = [(x0, .inr (4, [.ref s0, .ref k0, .ref p0, .ref t0])), (k0, .inr (1, [.int (nI es.length), .ref kf, .ref ko, .ref ka, .ref kb, .ref kt, .ref kl, .ref kp])), (kf, .inl (ty.2.1, 2000, .inr (.inl fF)))])) (fun E => (E = x_IO ∧ (en.toInt < 0 ∨ (es.length : Int) ≤ en.toInt))) := by
  refine g_ofTl hfl (cc := cX5_function) (nL := 2) (by decide) rfl rfl (Nat.le_of_ble_eq_true rfl) ⟨Nat.le_of_ble_eq_true rfl, Nat.le_of_ble_eq_true rfl, Nat.le_of_ble_eq_true rfl, Nat.le_of_ble_eq_true rfl, Nat.le_of_ble_eq_true rfl, Nat.le_of_ble_eq_true rfl⟩ ?_
  intro p e s m args below meth c Q A C hA hX hin hTh hR
  refine g_lv (lv' := [(0, .ref x0), (1, .int en)]) [0, 1] rfl ?_
  have hl0 := hw.2.2.2
  refine g_aload_n C dX5_function_0 0 rfl rfl ?_
  refine g_get C 0 rfl rfl 1 (by decide) (fun _ h => (List.mem_cons_of_mem _ (List.mem_append_left _ (List.mem_append_left _ (List.mem_append_right _ h))))) 3 rfl rfl rfl dX5_function_1 ?_
  refine g_iload_n C dX5_function_4 1 rfl rfl ?_
  refine g_callPV C ⟨g_X0_ok, trivial⟩ (t_X2_has l D ty k0 kf ko ka kb kt kl kp es.length (by omega) en) rfl gX5_function_X2_has 1 (by decide +kernel) rfl ⟨rfl, rfl⟩ ⟨Nat.le_of_ble_eq_true rfl, Nat.le_of_ble_eq_true rfl⟩ (rest := []) (q0 := 1) rfl rfl [1] rfl (Nat.le_of_ble_eq_true rfl) dX5_function_5 ⟨Nat.le_of_ble_eq_true rfl, Nat.le_of_ble_eq_true rfl⟩ rfl (g_ki (fun r hr => ?_))
  subst hr
  have := bt_lt (hsB en es.length)
  refine g_if_neN C dX5_function_8 (tgt := 21) (by decide) (by omega) (fun h8 => ?_) (fun h8 => ?_)
  · skip
    obtain ⟨k, hk, rfl⟩ := hs_1 h8
    refine g_aload_n C dX5_function_21 0 rfl rfl ?_
    refine g_get C 0 rfl rfl 1 (by decide) (fun _ h => (List.mem_cons_of_mem _ (List.mem_append_left _ (List.mem_append_left _ (List.mem_append_right _ h))))) 3 rfl rfl rfl dX5_function_22 ?_
    refine g_get C 1 rfl rfl 1 (by decide) (fun _ h => (List.mem_cons_of_mem _ (List.mem_append_left _ (List.mem_append_right _ h)))) 4 rfl rfl rfl dX5_function_25 ?_
    refine g_iload_n C dX5_function_28 1 rfl rfl ?_
    refine g_lald C (v := (eF es k)) 2 rfl (by omega) (by omega) (hw.1 k hk).1 dX5_function_29 ?_
    refine hR _ _ _ _ _ _ dX5_function_30 ?_ (by omega) (by omega)
    exact ⟨k, hk, rfl, rfl, rfl⟩
  · skip
    have hno := hs_0 h8
    exact hTh 0 7 11 41 1 2 _ _ (by decide) (by decide) (⟨rfl, hno⟩) rfl rfl (fun _ h => (List.mem_cons_of_mem _ (List.mem_append_right _ h))) dX5_function_11 dX5_function_14 dX5_function_15 dX5_function_17 dX5_function_20 rfl

abbrev rm_t_X5_entry : Room := ({ frames := 6, cells := 1, slots := 6, locals := 82 } : Room)
set_option maxHeartbeats 4000000 in
set_option maxRecDepth 100000 in
theorem t_X5_entry (l : Launch) (hfl : l.stackTraces = false) (D : va_G) (ty : g_T3) (x0 s0 p0 t0 : Nat) (k0 kf ko ka kb kt kl kp : Nat) (es : List Ent) (fF : Nat → Int64) (oF aF bF tF sF pF : Nat → Int32) (hw : rowOk es fF oF aF bF sF) (st : Nat → Nat) (ht : ∀ j, j < 8 → tF j = nI (st j)) (hb : ∀ j, j ≤ 7 → st j < 2 ^ 31) (hco : coOk es st) (en wh : Int32) : g_T l yX5_entry wsX5_entry rm_t_X5_entry D ty g_XT [.ref x0, .int en, .int wh] [(x0, .inr (4, [.ref s0, .ref k0, .ref p0, .ref t0])), (k0, .inr (1, [.int (nI es.length), .ref kf, .ref ko, .ref ka, .ref kb, .ref kt, .ref kl, .ref kp])), (ko, .inl (ty.1, 2000, .inl oF)), (ka, .inl (ty.1, 2000, .inl aF)), (kb, .inl (ty.1, 2000, .inl bF)), (kt, .inl (ty.1, 8, .inl tF))] 1 6 (g_ui (fun r w => ∃ k q, k < es.length ∧ en = nI k ∧ q ≤ 3 ∧ wh = nI q ∧ r = tlV es k q ∧ w = [(x0, .inr (4, [.ref s0, .ref k0, .ref p0, .ref t0])), (k0, .inr (1, [.int (nI es.length), .ref kf, .ref ko, .ref ka, .ref kb, .ref kt, .ref kl, .ref kp])), (ko, .inl (ty.1, 2000, .inl oF)), (ka, .inl (ty.1, 2000, .inl aF)), (kb, .inl (ty.1, 2000, .inl bF)), (kt, .inl (ty.1, 8, .inl tF))])) (fun E => (E = x_IO ∧ ((en.toInt < 0 ∨ (es.length : Int) ≤ en.toInt) ∨ (wh.toInt < 0 ∨ 3 < wh.toInt)))) := by
  refine g_ofTi hfl (cc := cX5_entry) (nL := 3) (by decide) rfl rfl (Nat.le_of_ble_eq_true rfl) ⟨Nat.le_of_ble_eq_true rfl, Nat.le_of_ble_eq_true rfl, Nat.le_of_ble_eq_true rfl, Nat.le_of_ble_eq_true rfl, Nat.le_of_ble_eq_true rfl, Nat.le_of_ble_eq_true rfl⟩ ?_
  intro p e s m args below meth c Q A C hA hX hin hTh hR
  refine g_lv (lv' := [(0, .ref x0), (1, .int en), (2, .int wh)]) [0, 1, 2] rfl ?_
  have hl0 := hw.2.2.2
  refine g_aload_n C dX5_entry_0 0 rfl rfl ?_
  refine g_get C 0 rfl rfl 1 (by decide) (fun _ h => (List.mem_cons_of_mem _ (List.mem_append_left _ (List.mem_append_left _ (List.mem_append_right _ h))))) 3 rfl rfl rfl dX5_entry_1 ?_
  refine g_iload_n C dX5_entry_4 1 rfl rfl ?_
  refine g_callPV C ⟨g_X0_ok, trivial⟩ (t_X2_has l D ty k0 kf ko ka kb kt kl kp es.length (by omega) en) rfl gX5_entry_X2_has 1 (by decide +kernel) rfl ⟨rfl, rfl⟩ ⟨Nat.le_of_ble_eq_true rfl, Nat.le_of_ble_eq_true rfl⟩ (rest := []) (q0 := 1) rfl rfl [1] rfl (Nat.le_of_ble_eq_true rfl) dX5_entry_5 ⟨Nat.le_of_ble_eq_true rfl, Nat.le_of_ble_eq_true rfl⟩ rfl (g_ki (fun r hr => ?_))
  subst hr
  have := bt_lt (hsB en es.length)
  refine g_if_neN C dX5_entry_8 (tgt := 21) (by decide) (by omega) (fun h8 => ?_) (fun h8 => ?_)
  · skip
    obtain ⟨k, hk, rfl⟩ := hs_1 h8
    refine g_iload_n C dX5_entry_21 2 rfl rfl ?_
    rcases in_3 wh with rfl | rfl | rfl | rfl | hno
    · skip
      refine g_tableIn C dX5_entry_22 (by decide) (by decide) (off := 30) (by decide) (tgt := 52) (by decide) ?_
      refine g_aload_n C dX5_entry_52 0 rfl rfl ?_
      refine g_get C 0 rfl rfl 1 (by decide) (fun _ h => (List.mem_cons_of_mem _ (List.mem_append_left _ (List.mem_append_left _ (List.mem_append_right _ h))))) 3 rfl rfl rfl dX5_entry_53 ?_
      refine g_iload_n C dX5_entry_56 1 rfl rfl ?_
      refine g_callPV C ⟨g_X0_ok, trivial⟩ (t_X2_costOf l D ty k0 kf ko ka kb kt kl kp es tF st ht hb hco k (by omega) hl0) rfl gX5_entry_X2_costOf 1 (by decide +kernel) rfl ⟨rfl, rfl⟩ ⟨Nat.le_of_ble_eq_true rfl, Nat.le_of_ble_eq_true rfl⟩ (rest := []) (q0 := 1) rfl rfl [1, 5] rfl (Nat.le_of_ble_eq_true rfl) dX5_entry_57 ⟨Nat.le_of_ble_eq_true rfl, Nat.le_of_ble_eq_true rfl⟩ rfl (g_ki (fun r hr => ?_))
      subst hr
      refine hR _ _ _ _ _ _ dX5_entry_60 ?_ (by omega) (by omega)
      exact ⟨k, 0, hk, rfl, by decide, rfl, rfl, rfl⟩
    · skip
      refine g_tableIn C dX5_entry_22 (by decide) (by decide) (off := 39) (by decide) (tgt := 61) (by decide) ?_
      refine g_aload_n C dX5_entry_61 0 rfl rfl ?_
      refine g_get C 0 rfl rfl 1 (by decide) (fun _ h => (List.mem_cons_of_mem _ (List.mem_append_left _ (List.mem_append_left _ (List.mem_append_right _ h))))) 3 rfl rfl rfl dX5_entry_62 ?_
      refine g_get C 1 rfl rfl 2 (by decide) (fun _ h => (List.mem_cons_of_mem _ (List.mem_append_left _ (List.mem_append_right _ h)))) 4 rfl rfl rfl dX5_entry_65 ?_
      refine g_iload_n C dX5_entry_68 1 rfl rfl ?_
      refine g_iald C (v := (eO es k)) 2 rfl (by omega) (by omega) (hw.1 k hk).2.1 dX5_entry_69 ?_
      refine hR _ _ _ _ _ _ dX5_entry_70 ?_ (by omega) (by omega)
      exact ⟨k, 1, hk, rfl, by decide, rfl, rfl, rfl⟩
    · skip
      refine g_tableIn C dX5_entry_22 (by decide) (by decide) (off := 49) (by decide) (tgt := 71) (by decide) ?_
      refine g_aload_n C dX5_entry_71 0 rfl rfl ?_
      refine g_get C 0 rfl rfl 1 (by decide) (fun _ h => (List.mem_cons_of_mem _ (List.mem_append_left _ (List.mem_append_left _ (List.mem_append_right _ h))))) 3 rfl rfl rfl dX5_entry_72 ?_
      refine g_get C 1 rfl rfl 3 (by decide) (fun _ h => (List.mem_cons_of_mem _ (List.mem_append_left _ (List.mem_append_right _ h)))) 5 rfl rfl rfl dX5_entry_75 ?_
      refine g_iload_n C dX5_entry_78 1 rfl rfl ?_
      refine g_iald C (v := (eA es k)) 3 rfl (by omega) (by omega) (hw.1 k hk).2.2.1 dX5_entry_79 ?_
      refine hR _ _ _ _ _ _ dX5_entry_80 ?_ (by omega) (by omega)
      exact ⟨k, 2, hk, rfl, by decide, rfl, rfl, rfl⟩
    · skip
      refine g_tableIn C dX5_entry_22 (by decide) (by decide) (off := 59) (by decide) (tgt := 81) (by decide) ?_
      refine g_aload_n C dX5_entry_81 0 rfl rfl ?_
      refine g_get C 0 rfl rfl 1 (by decide) (fun _ h => (List.mem_cons_of_mem _ (List.mem_append_left _ (List.mem_append_left _ (List.mem_append_right _ h))))) 3 rfl rfl rfl dX5_entry_82 ?_
      refine g_get C 1 rfl rfl 4 (by decide) (fun _ h => (List.mem_cons_of_mem _ (List.mem_append_left _ (List.mem_append_right _ h)))) 6 rfl rfl rfl dX5_entry_85 ?_
      refine g_iload_n C dX5_entry_88 1 rfl rfl ?_
      refine g_iald C (v := (eB es k)) 4 rfl (by omega) (by omega) (hw.1 k hk).2.2.2 dX5_entry_89 ?_
      refine hR _ _ _ _ _ _ dX5_entry_90 ?_ (by omega) (by omega)
      exact ⟨k, 3, hk, rfl, by decide, rfl, rfl, rfl⟩
    · skip
      refine g_tableOut C dX5_entry_22 hno (tgt := 91) (by decide) ?_
      exact hTh 0 8 91 41 1 2 _ _ (by decide) (by decide) (⟨rfl, Or.inr hno⟩) rfl rfl (fun _ h => (List.mem_cons_of_mem _ (List.mem_append_right _ h))) dX5_entry_91 dX5_entry_94 dX5_entry_95 dX5_entry_97 dX5_entry_100 rfl
  · skip
    have hno := hs_0 h8
    exact hTh 0 7 11 41 1 2 _ _ (by decide) (by decide) (⟨rfl, Or.inl hno⟩) rfl rfl (fun _ h => (List.mem_cons_of_mem _ (List.mem_append_right _ h))) dX5_entry_11 dX5_entry_14 dX5_entry_15 dX5_entry_17 dX5_entry_20 rfl

abbrev rm_t_X5_find : Room := ({ frames := 2, cells := 0, slots := 0, locals := 48 } : Room)
set_option maxHeartbeats 4000000 in
set_option maxRecDepth 100000 in
theorem t_X5_find (l : Launch) (D : va_G) (ty : g_T3) (x0 s0 p0 t0 : Nat) (k0 kf ko ka kb kt kl kp : Nat) (es : List Ent) (fF : Nat → Int64) (oF aF bF tF sF pF : Nat → Int32) (hw : rowOk es fF oF aF bF sF) (f : Int64) : g_P l yX5_find wsX5_find rm_t_X5_find D ty g_X0 [.ref x0, .long f] [(x0, .inr (4, [.ref s0, .ref k0, .ref p0, .ref t0])), (k0, .inr (1, [.int (nI es.length), .ref kf, .ref ko, .ref ka, .ref kb, .ref kt, .ref kl, .ref kp])), (kf, .inl (ty.2.1, 2000, .inr (.inl fF))), (kl, .inl (ty.1, 4096, .inl sF))] (g_pi (fun r => r = nI (fnN es f es.length) - 1)) := by
  refine g_ofPi (cc := cX5_find) (nL := 3) (own := RX5) (by decide) rfl rfl g_X0_ok (Nat.le_of_ble_eq_true rfl) ?_
  intro p e s m args below meth c Q C hX hR
  refine g_lv (lv' := [(0, .ref x0), (1, .long f)]) [0, 1] rfl ?_
  refine g_aload_n C dX5_find_0 0 rfl rfl ?_
  refine g_get C 0 rfl rfl 1 (by decide) (fun _ h => (List.mem_cons_of_mem _ (List.mem_append_left _ (List.mem_append_right _ h)))) 1 rfl rfl rfl dX5_find_1 ?_
  refine g_lload_n C dX5_find_4 1 rfl rfl ?_
  refine g_callPV C ⟨g_X0_ok, trivial⟩ (t_X2_entryWith l D ty k0 kf ko ka kb kt kl kp es fF oF aF bF tF sF pF hw f) rfl gX5_find_X2_entryWith 1 (by decide +kernel) rfl ⟨rfl, rfl⟩ ⟨Nat.le_of_ble_eq_true rfl, Nat.le_of_ble_eq_true rfl⟩ (rest := []) (q0 := 1) rfl rfl [1, 2, 3] rfl (Nat.le_of_ble_eq_true rfl) dX5_find_5 ⟨Nat.le_of_ble_eq_true rfl, Nat.le_of_ble_eq_true rfl⟩ rfl (g_ki (fun r hr => ?_))
  subst hr
  exact hR _ _ _ _ dX5_find_8 (rfl)

abbrev rm_t_X5_fit : Room := ({ frames := 6, cells := 1, slots := 6, locals := 82 } : Room)
set_option maxHeartbeats 4000000 in
set_option maxRecDepth 100000 in
theorem t_X5_fit (l : Launch) (hfl : l.stackTraces = false) (D : va_G) (ty : g_T3) (x0 s0 p0 t0 : Nat) (k0 kf ko ka kb kt kl kp : Nat) (es : List Ent) (fF : Nat → Int64) (oF aF bF tF sF pF : Nat → Int32) (hw : rowOk es fF oF aF bF sF) (f : Int64) (o : Int32) : g_T l yX5_fit wsX5_fit rm_t_X5_fit D ty g_XT [.ref x0, .long f, .int o] [(x0, .inr (4, [.ref s0, .ref k0, .ref p0, .ref t0])), (k0, .inr (1, [.int (nI es.length), .ref kf, .ref ko, .ref ka, .ref kb, .ref kt, .ref kl, .ref kp])), (kf, .inl (ty.2.1, 2000, .inr (.inl fF)))] 1 6 (g_ui (fun r w => ∃ k, k ≤ 65535 ∧ o = nI k ∧ fstI (fun j => (eF es j ^^^ f) &&& mkN k 16 = 0) es.length r ∧ w = [(x0, .inr (4, [.ref s0, .ref k0, .ref p0, .ref t0])), (k0, .inr (1, [.int (nI es.length), .ref kf, .ref ko, .ref ka, .ref kb, .ref kt, .ref kl, .ref kp])), (kf, .inl (ty.2.1, 2000, .inr (.inl fF)))])) (fun E => (E = x_IA ∧ (o.toInt < 0 ∨ 65535 < o.toInt))) := by
  refine g_ofTi hfl (cc := cX5_fit) (nL := 4) (by decide) rfl rfl (Nat.le_of_ble_eq_true rfl) ⟨Nat.le_of_ble_eq_true rfl, Nat.le_of_ble_eq_true rfl, Nat.le_of_ble_eq_true rfl, Nat.le_of_ble_eq_true rfl, Nat.le_of_ble_eq_true rfl, Nat.le_of_ble_eq_true rfl⟩ ?_
  intro p e s m args below meth c Q A C hA hX hin hTh hR
  refine g_lv (lv' := [(0, .ref x0), (1, .long f), (3, .int o)]) [0, 1, 2] rfl ?_
  refine g_iload_n C dX5_fit_0 2 rfl rfl ?_
  refine g_if_lt C dX5_fit_1 (tgt := 10) (by decide) (fun h1 => ?_) (fun h1 => ?_)
  · skip
    exact hTh 1 9 10 56 1 2 _ _ (by decide) (by decide) (⟨rfl, by omega⟩) rfl rfl (fun _ h => (List.mem_cons_of_mem _ (List.mem_append_right _ h))) dX5_fit_10 dX5_fit_13 dX5_fit_14 dX5_fit_16 dX5_fit_19 rfl
  · skip
    refine g_iload_n C dX5_fit_4 2 rfl rfl ?_
    refine g_ldc C (v := (nI 65535)) 3 rfl dX5_fit_5 ?_
    refine g_icmp_le C dX5_fit_7 (tgt := 20) (by decide) (fun h7 => ?_) (fun h7 => ?_)
    · skip
      rw [nI_toInt (by decide)] at h7
      obtain ⟨k, hk, rfl⟩ := nI_of_int (x := o) (n := 65535) (by omega) (by omega)
      refine g_aload_n C dX5_fit_20 0 rfl rfl ?_
      refine g_get C 0 rfl rfl 1 (by decide) (fun _ h => (List.mem_cons_of_mem _ (List.mem_append_left _ (List.mem_append_left _ (List.mem_append_right _ h))))) 4 rfl rfl rfl dX5_fit_21 ?_
      refine g_lload_n C dX5_fit_24 1 rfl rfl ?_
      refine g_iload_n C dX5_fit_25 2 rfl rfl ?_
      refine g_callPS C ⟨g_X0_ok, trivial⟩ (t_X0_maskOf l D ty k (by omega)) rfl gX5_fit_X0_maskOf 1 (by decide +kernel) rfl ⟨rfl, rfl⟩ ⟨Nat.le_of_ble_eq_true rfl, Nat.le_of_ble_eq_true rfl⟩ (rest := [.long f, .ref k0]) [] rfl (Nat.le_of_ble_eq_true rfl) dX5_fit_26 ⟨Nat.le_of_ble_eq_true rfl, Nat.le_of_ble_eq_true rfl⟩ rfl (g_kl (fun r hr => ?_))
      subst hr
      refine g_callPV C ⟨g_X0_ok, trivial⟩ (t_X2_firstAlike l D ty k0 kf ko ka kb kt kl kp es fF oF aF bF tF sF pF hw f (mkN k 16)) rfl gX5_fit_X2_firstAlike 2 (by decide +kernel) rfl ⟨rfl, rfl⟩ ⟨Nat.le_of_ble_eq_true rfl, Nat.le_of_ble_eq_true rfl⟩ (rest := []) (q0 := 1) rfl rfl [1, 2] rfl (Nat.le_of_ble_eq_true rfl) dX5_fit_29 ⟨Nat.le_of_ble_eq_true rfl, Nat.le_of_ble_eq_true rfl⟩ rfl (g_ki (fun rr9 hr => ?_))
      refine hR _ _ _ _ _ _ dX5_fit_32 ?_ (by omega) (by omega)
      exact ⟨k, hk, rfl, hr, rfl⟩
    · skip
      rw [nI_toInt (by decide)] at h7
      exact hTh 1 9 10 56 1 2 _ _ (by decide) (by decide) (⟨rfl, by omega⟩) rfl rfl (fun _ h => (List.mem_cons_of_mem _ (List.mem_append_right _ h))) dX5_fit_10 dX5_fit_13 dX5_fit_14 dX5_fit_16 dX5_fit_19 rfl

abbrev rm_t_X5_near : Room := ({ frames := 3, cells := 0, slots := 0, locals := 72 } : Room)
set_option maxHeartbeats 4000000 in
set_option maxRecDepth 100000 in
theorem t_X5_near (l : Launch) (D : va_G) (ty : g_T3) (x0 s0 p0 t0 : Nat) (k0 kf ko ka kb kt kl kp : Nat) (es : List Ent) (fF : Nat → Int64) (oF aF bF tF sF pF : Nat → Int32) (hw : rowOk es fF oF aF bF sF) (f : Int64) : g_P l yX5_near wsX5_near rm_t_X5_near D ty g_X0 [.ref x0, .long f] [(x0, .inr (4, [.ref s0, .ref k0, .ref p0, .ref t0])), (k0, .inr (1, [.int (nI es.length), .ref kf, .ref ko, .ref ka, .ref kb, .ref kt, .ref kl, .ref kp])), (kf, .inl (ty.2.1, 2000, .inr (.inl fF)))] (g_pi (fun r => r = (nrN (fun j => lbc (dfF (eF es j) f)) es.length).1)) := by
  refine g_ofPi (cc := cX5_near) (nL := 3) (own := RX5) (by decide) rfl rfl g_X0_ok (Nat.le_of_ble_eq_true rfl) ?_
  intro p e s m args below meth c Q C hX hR
  refine g_lv (lv' := [(0, .ref x0), (1, .long f)]) [0, 1] rfl ?_
  refine g_aload_n C dX5_near_0 0 rfl rfl ?_
  refine g_get C 0 rfl rfl 1 (by decide) (fun _ h => (List.mem_cons_of_mem _ (List.mem_append_left _ (List.mem_append_right _ h)))) 1 rfl rfl rfl dX5_near_1 ?_
  refine g_lload_n C dX5_near_4 1 rfl rfl ?_
  refine g_callPV C ⟨g_X0_ok, trivial⟩ (t_X2_firstNearest l D ty k0 kf ko ka kb kt kl kp es fF oF aF bF tF sF pF hw f) rfl gX5_near_X2_firstNearest 1 (by decide +kernel) rfl ⟨rfl, rfl⟩ ⟨Nat.le_of_ble_eq_true rfl, Nat.le_of_ble_eq_true rfl⟩ (rest := []) (q0 := 1) rfl rfl [1, 2] rfl (Nat.le_of_ble_eq_true rfl) dX5_near_5 ⟨Nat.le_of_ble_eq_true rfl, Nat.le_of_ble_eq_true rfl⟩ rfl (g_ki (fun r hr => ?_))
  subst hr
  exact hR _ _ _ _ dX5_near_8 (rfl)









abbrev rm_t_X5_search : Room := ({ frames := 6, cells := 1, slots := 6, locals := 150 } : Room)
set_option maxHeartbeats 4000000 in
set_option maxRecDepth 100000 in
theorem t_X5_search (l : Launch) (hfl : l.stackTraces = false) (D : va_G) (ty : g_T3) (x0 s0 k0 p0 t0 : Nat) (kf ko ka kb kt kl kp : Nat) (es : List Ent) (fF : Nat → Int64) (oF aF bF tF sF pF : Nat → Int32) (hw : rowOk es fF oF aF bF sF) (sp sa sc : Nat) (p2 : Nat → Nat) (al cs : Nat → Bool) (hp : (∀ k, k < 10 → 1 ≤ p2 k ∧ p2 k ≤ 5) ∧ p2 10 ≤ 5) (bg : Int32) : g_T l yX5_search wsX5_search rm_t_X5_search D ty g_XT [.ref x0, .int bg] [(x0, .inr (4, [.ref s0, .ref k0, .ref p0, .ref t0])), (k0, .inr (1, [.int (nI es.length), .ref kf, .ref ko, .ref ka, .ref kb, .ref kt, .ref kl, .ref kp])), (kf, .inl (ty.2.1, 2000, .inr (.inl fF))), (ko, .inl (ty.1, 2000, .inl oF)), (ka, .inl (ty.1, 2000, .inl aF)), (kb, .inl (ty.1, 2000, .inl bF)), (kt, .inl (ty.1, 8, .inl tF)), (kl, .inl (ty.1, 4096, .inl sF)), (s0, .inr (2, [.ref sp, .ref sa, .ref sc])), (sp, .inl (ty.1, 11, .inl (zN p2))), (sa, .inl (ty.2.2, 10, .inl (zB al))), (sc, .inl (ty.2.2, 16, .inl (zB cs)))] 1 6 (g_ui (fun r w => ∃ k, k ≤ 6 ∧ bg = nI k ∧ r = nI (sq p2 al cs k 8).2.length ∧ ∃ (fF2 : Nat → Int64) (oF2 aF2 bF2 tF2 sF2 : Nat → Int32), rowOk (sq p2 al cs k 8).2 fF2 oF2 aF2 bF2 sF2 ∧ (∀ j, j < 8 → tF2 j = nI ((sq p2 al cs k 8).1 j)) ∧ w = [(x0, .inr (4, [.ref s0, .ref k0, .ref p0, .ref t0])), (k0, .inr (1, [.int (nI ((sq p2 al cs k 8).2.length)), .ref kf, .ref ko, .ref ka, .ref kb, .ref kt, .ref kl, .ref kp])), (kf, .inl (ty.2.1, 2000, .inr (.inl fF2))), (ko, .inl (ty.1, 2000, .inl oF2)), (ka, .inl (ty.1, 2000, .inl aF2)), (kb, .inl (ty.1, 2000, .inl bF2)), (kt, .inl (ty.1, 8, .inl tF2)), (kl, .inl (ty.1, 4096, .inl sF2)), (s0, .inr (2, [.ref sp, .ref sa, .ref sc])), (sp, .inl (ty.1, 11, .inl (zN p2))), (sa, .inl (ty.2.2, 10, .inl (zB al))), (sc, .inl (ty.2.2, 16, .inl (zB cs)))])) (fun E => (E = x_IA ∧ (bg.toInt < 0 ∨ 6 < bg.toInt))) := by
  refine g_ofTi hfl (cc := cX5_search) (nL := 2) (by decide) rfl rfl (Nat.le_of_ble_eq_true rfl) ⟨Nat.le_of_ble_eq_true rfl, Nat.le_of_ble_eq_true rfl, Nat.le_of_ble_eq_true rfl, Nat.le_of_ble_eq_true rfl, Nat.le_of_ble_eq_true rfl, Nat.le_of_ble_eq_true rfl⟩ ?_
  intro p e s m args below meth c Q A C hA hX hin hTh hR
  refine g_lv (lv' := [(0, .ref x0), (1, .int bg)]) [0, 1] rfl ?_
  refine g_iload_n C dX5_search_0 1 rfl rfl ?_
  refine g_callPS C ⟨g_X0_ok, trivial⟩ (t_X5_isCost l D ty bg) rfl gX5_search_X5_isCost 1 (by decide +kernel) rfl ⟨rfl, rfl⟩ ⟨Nat.le_of_ble_eq_true rfl, Nat.le_of_ble_eq_true rfl⟩ (rest := []) [] rfl (Nat.le_of_ble_eq_true rfl) dX5_search_1 ⟨Nat.le_of_ble_eq_true rfl, Nat.le_of_ble_eq_true rfl⟩ rfl (g_ki (fun r hr => ?_))
  subst hr
  have := bt_lt (inB bg (nI 0) (nI 6))
  refine g_if_neN C dX5_search_4 (tgt := 17) (by decide) (by omega) (fun h4 => ?_) (fun h4 => ?_)
  · skip
    obtain ⟨k, hk, rfl⟩ := in_nI (by decide) h4
    refine g_aload_n C dX5_search_17 0 rfl rfl ?_
    refine g_get C 0 rfl rfl 1 (by decide) (fun _ h => (List.mem_cons_of_mem _ (List.mem_append_left _ (List.mem_append_left _ (List.mem_append_left _ (List.mem_append_right _ h)))))) 3 rfl rfl rfl dX5_search_18 ?_
    refine g_iload_n C dX5_search_21 1 rfl rfl ?_
    refine g_aload_n C dX5_search_22 0 rfl rfl ?_
    refine g_get C 0 rfl rfl 0 (by decide) (fun _ h => (List.mem_cons_of_mem _ (List.mem_append_left _ (List.mem_append_left _ (List.mem_append_left _ (List.mem_append_right _ h)))))) 4 rfl rfl rfl dX5_search_23 ?_
    refine g_callUV C ⟨g_XN_ok, hX.2.1⟩ (t_X2_make l D ty k0 kf ko ka kb kt kl kp es fF oF aF bF tF sF pF hw s0 sp sa sc p2 al cs hp k (by omega)) rfl gX5_search_X2_make 2 (by decide +kernel) rfl ⟨rfl, rfl⟩ ⟨Nat.le_of_ble_eq_true rfl, Nat.le_of_ble_eq_true rfl⟩ (rest := []) (q0 := 1) rfl rfl hA [1, 2, 3, 4, 5, 6, 7, 8, 9, 10, 11] [0] rfl rfl rfl (wr := [(x0, .inr (4, [.ref s0, .ref k0, .ref p0, .ref t0]))]) rfl rfl rfl (Nat.le_of_ble_eq_true rfl) dX5_search_26 ⟨Nat.le_of_ble_eq_true rfl, Nat.le_of_ble_eq_true rfl⟩ rfl (g_kuv (fun w hr => ?_))
    obtain ⟨fF26, oF26, aF26, bF26, tF26, sF26, hw26, ht26, rfl⟩ := hr
    refine g_ws (ws' := [(x0, .inr (4, [.ref s0, .ref k0, .ref p0, .ref t0])), (k0, .inr (1, [.int (nI ((sq p2 al cs k 8).2.length)), .ref kf, .ref ko, .ref ka, .ref kb, .ref kt, .ref kl, .ref kp])), (kf, .inl (ty.2.1, 2000, .inr (.inl fF26))), (ko, .inl (ty.1, 2000, .inl oF26)), (ka, .inl (ty.1, 2000, .inl aF26)), (kb, .inl (ty.1, 2000, .inl bF26)), (kt, .inl (ty.1, 8, .inl tF26)), (kl, .inl (ty.1, 4096, .inl sF26)), (s0, .inr (2, [.ref sp, .ref sa, .ref sc])), (sp, .inl (ty.1, 11, .inl (zN p2))), (sa, .inl (ty.2.2, 10, .inl (zB al))), (sc, .inl (ty.2.2, 16, .inl (zB cs)))]) [0, 1, 2, 3, 4, 5, 6, 7, 8, 9, 10, 11] rfl rfl rfl ?_
    refine g_aload_n C dX5_search_29 0 rfl rfl ?_
    refine g_get C 0 rfl rfl 1 (by decide) (fun _ h => (List.mem_cons_of_mem _ (List.mem_append_left _ (List.mem_append_left _ (List.mem_append_left _ (List.mem_append_right _ h)))))) 3 rfl rfl rfl dX5_search_30 ?_
    refine g_get C 1 rfl rfl 0 (by decide) (fun _ h => (List.mem_cons_of_mem _ (List.mem_append_left _ (List.mem_append_left _ (List.mem_append_right _ h))))) 5 rfl rfl rfl dX5_search_33 ?_
    refine hR _ _ _ _ _ _ dX5_search_36 ?_ (by omega) (by omega)
    exact ⟨k, hk, rfl, rfl, _, _, _, _, _, _, hw26, ht26, rfl⟩
  · skip
    have hno := in_no (by decide) h4
    exact hTh 1 7 7 56 1 2 _ _ (by decide) (by decide) (⟨rfl, by omega⟩) rfl rfl (fun _ h => (List.mem_cons_of_mem _ (List.mem_append_right _ h))) dX5_search_7 dX5_search_10 dX5_search_11 dX5_search_13 dX5_search_16 rfl

abbrev rm_t_X5_entries : Room := ({ frames := 0, cells := 0, slots := 0, locals := 0 } : Room)
set_option maxHeartbeats 4000000 in
set_option maxRecDepth 100000 in
theorem t_X5_entries (l : Launch) (D : va_G) (ty : g_T3) (x0 s0 p0 t0 : Nat) (k0 kf ko ka kb kt kl kp : Nat) (n : Nat) : g_P l yX5_entries wsX5_entries rm_t_X5_entries D ty g_X0 [.ref x0] [(x0, .inr (4, [.ref s0, .ref k0, .ref p0, .ref t0])), (k0, .inr (1, [.int (nI n), .ref kf, .ref ko, .ref ka, .ref kb, .ref kt, .ref kl, .ref kp]))] (g_pi (fun r => r = nI n)) := by
  refine g_ofPi (cc := cX5_entries) (nL := 1) (own := RX5) (by decide) rfl rfl g_X0_ok (Nat.le_of_ble_eq_true rfl) ?_
  intro p e s m args below meth c Q C hX hR
  refine g_lv (lv' := [(0, .ref x0)]) [0] rfl ?_
  refine g_aload_n C dX5_entries_0 0 rfl rfl ?_
  refine g_get C 0 rfl rfl 1 (by decide) (fun _ h => (List.mem_cons_of_mem _ (List.mem_append_left _ (List.mem_append_right _ h)))) 1 rfl rfl rfl dX5_entries_1 ?_
  refine g_get C 1 rfl rfl 0 (by decide) (fun _ h => (List.mem_cons_of_mem _ (List.mem_append_right _ h))) 2 rfl rfl rfl dX5_entries_4 ?_
  exact hR _ _ _ _ dX5_entries_7 (rfl)

abbrev rm_t_X5_ofCost : Room := ({ frames := 6, cells := 1, slots := 6, locals := 82 } : Room)
set_option maxHeartbeats 4000000 in
set_option maxRecDepth 100000 in
theorem t_X5_ofCost (l : Launch) (hfl : l.stackTraces = false) (D : va_G) (ty : g_T3) (x0 s0 p0 t0 : Nat) (k0 kf ko ka kb kt kl kp : Nat) (n : Nat) (hn : n ≤ 2000) (tF : Nat → Int32) (st : Nat → Nat) (ht : ∀ j, j < 8 → tF j = nI (st j)) (o : Int32) : g_T l yX5_ofCost wsX5_ofCost rm_t_X5_ofCost D ty g_XT [.ref x0, .int o] [(x0, .inr (4, [.ref s0, .ref k0, .ref p0, .ref t0])), (k0, .inr (1, [.int (nI n), .ref kf, .ref ko, .ref ka, .ref kb, .ref kt, .ref kl, .ref kp])), (kt, .inl (ty.1, 8, .inl tF))] 1 6 (g_ui (fun r w => ∃ k, k ≤ 6 ∧ o = nI k ∧ r = nI (st (k + 1)) - nI (st k) ∧ w = [(x0, .inr (4, [.ref s0, .ref k0, .ref p0, .ref t0])), (k0, .inr (1, [.int (nI n), .ref kf, .ref ko, .ref ka, .ref kb, .ref kt, .ref kl, .ref kp])), (kt, .inl (ty.1, 8, .inl tF))])) (fun E => (E = x_IA ∧ (o.toInt < 0 ∨ 6 < o.toInt))) := by
  refine g_ofTi hfl (cc := cX5_ofCost) (nL := 2) (by decide) rfl rfl (Nat.le_of_ble_eq_true rfl) ⟨Nat.le_of_ble_eq_true rfl, Nat.le_of_ble_eq_true rfl, Nat.le_of_ble_eq_true rfl, Nat.le_of_ble_eq_true rfl, Nat.le_of_ble_eq_true rfl, Nat.le_of_ble_eq_true rfl⟩ ?_
  intro p e s m args below meth c Q A C hA hX hin hTh hR
  refine g_lv (lv' := [(0, .ref x0), (1, .int o)]) [0, 1] rfl ?_
  refine g_iload_n C dX5_ofCost_0 1 rfl rfl ?_
  refine g_callPS C ⟨g_X0_ok, trivial⟩ (t_X5_isCost l D ty o) rfl gX5_ofCost_X5_isCost 1 (by decide +kernel) rfl ⟨rfl, rfl⟩ ⟨Nat.le_of_ble_eq_true rfl, Nat.le_of_ble_eq_true rfl⟩ (rest := []) [] rfl (Nat.le_of_ble_eq_true rfl) dX5_ofCost_1 ⟨Nat.le_of_ble_eq_true rfl, Nat.le_of_ble_eq_true rfl⟩ rfl (g_ki (fun r hr => ?_))
  subst hr
  have := bt_lt (inB o (nI 0) (nI 6))
  refine g_if_neN C dX5_ofCost_4 (tgt := 17) (by decide) (by omega) (fun h4 => ?_) (fun h4 => ?_)
  · skip
    obtain ⟨k, hk, rfl⟩ := in_nI (by decide) h4
    refine g_aload_n C dX5_ofCost_17 0 rfl rfl ?_
    refine g_get C 0 rfl rfl 1 (by decide) (fun _ h => (List.mem_cons_of_mem _ (List.mem_append_left _ (List.mem_append_left _ (List.mem_append_right _ h))))) 3 rfl rfl rfl dX5_ofCost_18 ?_
    refine g_iload_n C dX5_ofCost_21 1 rfl rfl ?_
    refine g_callPV C ⟨g_X0_ok, trivial⟩ (t_X2_countOfCost l D ty k0 kf ko ka kb kt kl kp n hn tF st ht k (by omega)) rfl gX5_ofCost_X2_countOfCost 1 (by decide +kernel) rfl ⟨rfl, rfl⟩ ⟨Nat.le_of_ble_eq_true rfl, Nat.le_of_ble_eq_true rfl⟩ (rest := []) (q0 := 1) rfl rfl [1, 2] rfl (Nat.le_of_ble_eq_true rfl) dX5_ofCost_22 ⟨Nat.le_of_ble_eq_true rfl, Nat.le_of_ble_eq_true rfl⟩ rfl (g_ki (fun r hr => ?_))
    subst hr
    refine hR _ _ _ _ _ _ dX5_ofCost_25 ?_ (by omega) (by omega)
    exact ⟨k, hk, rfl, rfl, rfl⟩
  · skip
    have hno := in_no (by decide) h4
    exact hTh 1 8 7 56 1 2 _ _ (by decide) (by decide) (⟨rfl, by omega⟩) rfl rfl (fun _ h => (List.mem_cons_of_mem _ (List.mem_append_right _ h))) dX5_ofCost_7 dX5_ofCost_10 dX5_ofCost_11 dX5_ofCost_13 dX5_ofCost_16 rfl

abbrev rm_t_X5_function : Room := ({ frames := 6, cells := 1, slots := 6, locals := 82 } : Room)
set_option maxHeartbeats 4000000 in
set_option maxRecDepth 100000 in
theorem t_X5_function (l : Launch) (hfl : l.stackTraces = false) (D : va_G) (ty : g_T3) (x0 s0 p0 t0 : Nat) (k0 kf ko ka kb kt kl kp : Nat) (es : List Ent) (fF : Nat → Int64) (oF aF bF tF sF pF : Nat → Int32) (hw : rowOk es fF oF aF bF sF) (en : Int32) : g_T l yX5_function wsX5_function rm_t_X5_function D ty g_XT [.ref x0, .int en] [(x0, .inr (4, [.ref s0, .ref k0, .ref p0, .ref t0])), (k0, .inr (1, [.int (nI es.length), .ref kf, .ref ko, .ref ka, .ref kb, .ref kt, .ref kl, .ref kp])), (kf, .inl (ty.2.1, 2000, .inr (.inl fF)))] 1 6 (g_ul (fun r w => ∃ k, k < es.length ∧ en = nI k ∧ r = eF es k ∧ w = [(x0, .inr (4, [.ref s0, .ref k0, .ref p0, .ref t0])), (k0, .inr (1, [.int (nI es.length), .ref kf, .ref ko, .ref ka, .ref kb, .ref kt, .ref kl, .ref kp])), (kf, .inl (ty.2.1, 2000, .inr (.inl fF)))])) (fun E => (E = x_IO ∧ (en.toInt < 0 ∨ (es.length : Int) ≤ en.toInt))) := by
  refine g_ofTl hfl (cc := cX5_function) (nL := 2) (by decide) rfl rfl (Nat.le_of_ble_eq_true rfl) ⟨Nat.le_of_ble_eq_true rfl, Nat.le_of_ble_eq_true rfl, Nat.le_of_ble_eq_true rfl, Nat.le_of_ble_eq_true rfl, Nat.le_of_ble_eq_true rfl, Nat.le_of_ble_eq_true rfl⟩ ?_
  intro p e s m args below meth c Q A C hA hX hin hTh hR
  refine g_lv (lv' := [(0, .ref x0), (1, .int en)]) [0, 1] rfl ?_
  have hl0 := hw.2.2.2
  refine g_aload_n C dX5_function_0 0 rfl rfl ?_
  refine g_get C 0 rfl rfl 1 (by decide) (fun _ h => (List.mem_cons_of_mem _ (List.mem_append_left _ (List.mem_append_left _ (List.mem_append_right _ h))))) 3 rfl rfl rfl dX5_function_1 ?_
  refine g_iload_n C dX5_function_4 1 rfl rfl ?_
  refine g_callPV C ⟨g_X0_ok, trivial⟩ (t_X2_has l D ty k0 kf ko ka kb kt kl kp es.length (by omega) en) rfl gX5_function_X2_has 1 (by decide +kernel) rfl ⟨rfl, rfl⟩ ⟨Nat.le_of_ble_eq_true rfl, Nat.le_of_ble_eq_true rfl⟩ (rest := []) (q0 := 1) rfl rfl [1] rfl (Nat.le_of_ble_eq_true rfl) dX5_function_5 ⟨Nat.le_of_ble_eq_true rfl, Nat.le_of_ble_eq_true rfl⟩ rfl (g_ki (fun r hr => ?_))
  subst hr
  have := bt_lt (hsB en es.length)
  refine g_if_neN C dX5_function_8 (tgt := 21) (by decide) (by omega) (fun h8 => ?_) (fun h8 => ?_)
  · skip
    obtain ⟨k, hk, rfl⟩ := hs_1 h8
    refine g_aload_n C dX5_function_21 0 rfl rfl ?_
    refine g_get C 0 rfl rfl 1 (by decide) (fun _ h => (List.mem_cons_of_mem _ (List.mem_append_left _ (List.mem_append_left _ (List.mem_append_right _ h))))) 3 rfl rfl rfl dX5_function_22 ?_
    refine g_get C 1 rfl rfl 1 (by decide) (fun _ h => (List.mem_cons_of_mem _ (List.mem_append_left _ (List.mem_append_right _ h)))) 4 rfl rfl rfl dX5_function_25 ?_
    refine g_iload_n C dX5_function_28 1 rfl rfl ?_
    refine g_lald C (v := (eF es k)) 2 rfl (by omega) (by omega) (hw.1 k hk).1 dX5_function_29 ?_
    refine hR _ _ _ _ _ _ dX5_function_30 ?_ (by omega) (by omega)
    exact ⟨k, hk, rfl, rfl, rfl⟩
  · skip
    have hno := hs_0 h8
    exact hTh 0 9 11 41 1 2 _ _ (by decide) (by decide) (⟨rfl, hno⟩) rfl rfl (fun _ h => (List.mem_cons_of_mem _ (List.mem_append_right _ h))) dX5_function_11 dX5_function_14 dX5_function_15 dX5_function_17 dX5_function_20 rfl

abbrev rm_t_X5_entry : Room := ({ frames := 6, cells := 1, slots := 6, locals := 82 } : Room)
set_option maxHeartbeats 4000000 in
set_option maxRecDepth 100000 in
theorem t_X5_entry (l : Launch) (hfl : l.stackTraces = false) (D : va_G) (ty : g_T3) (x0 s0 p0 t0 : Nat) (k0 kf ko ka kb kt kl kp : Nat) (es : List Ent) (fF : Nat → Int64) (oF aF bF tF sF pF : Nat → Int32) (hw : rowOk es fF oF aF bF sF) (st : Nat → Nat) (ht : ∀ j, j < 8 → tF j = nI (st j)) (hb : ∀ j, j ≤ 7 → st j < 2 ^ 31) (hco : coOk es st) (en wh : Int32) : g_T l yX5_entry wsX5_entry rm_t_X5_entry D ty g_XT [.ref x0, .int en, .int wh] [(x0, .inr (4, [.ref s0, .ref k0, .ref p0, .ref t0])), (k0, .inr (1, [.int (nI es.length), .ref kf, .ref ko, .ref ka, .ref kb, .ref kt, .ref kl, .ref kp])), (ko, .inl (ty.1, 2000, .inl oF)), (ka, .inl (ty.1, 2000, .inl aF)), (kb, .inl (ty.1, 2000, .inl bF)), (kt, .inl (ty.1, 8, .inl tF))] 1 6 (g_ui (fun r w => ∃ k q, k < es.length ∧ en = nI k ∧ q ≤ 3 ∧ wh = nI q ∧ r = tlV es k q ∧ w = [(x0, .inr (4, [.ref s0, .ref k0, .ref p0, .ref t0])), (k0, .inr (1, [.int (nI es.length), .ref kf, .ref ko, .ref ka, .ref kb, .ref kt, .ref kl, .ref kp])), (ko, .inl (ty.1, 2000, .inl oF)), (ka, .inl (ty.1, 2000, .inl aF)), (kb, .inl (ty.1, 2000, .inl bF)), (kt, .inl (ty.1, 8, .inl tF))])) (fun E => (E = x_IO ∧ ((en.toInt < 0 ∨ (es.length : Int) ≤ en.toInt) ∨ (wh.toInt < 0 ∨ 3 < wh.toInt)))) := by
  refine g_ofTi hfl (cc := cX5_entry) (nL := 3) (by decide) rfl rfl (Nat.le_of_ble_eq_true rfl) ⟨Nat.le_of_ble_eq_true rfl, Nat.le_of_ble_eq_true rfl, Nat.le_of_ble_eq_true rfl, Nat.le_of_ble_eq_true rfl, Nat.le_of_ble_eq_true rfl, Nat.le_of_ble_eq_true rfl⟩ ?_
  intro p e s m args below meth c Q A C hA hX hin hTh hR
  refine g_lv (lv' := [(0, .ref x0), (1, .int en), (2, .int wh)]) [0, 1, 2] rfl ?_
  have hl0 := hw.2.2.2
  refine g_aload_n C dX5_entry_0 0 rfl rfl ?_
  refine g_get C 0 rfl rfl 1 (by decide) (fun _ h => (List.mem_cons_of_mem _ (List.mem_append_left _ (List.mem_append_left _ (List.mem_append_right _ h))))) 3 rfl rfl rfl dX5_entry_1 ?_
  refine g_iload_n C dX5_entry_4 1 rfl rfl ?_
  refine g_callPV C ⟨g_X0_ok, trivial⟩ (t_X2_has l D ty k0 kf ko ka kb kt kl kp es.length (by omega) en) rfl gX5_entry_X2_has 1 (by decide +kernel) rfl ⟨rfl, rfl⟩ ⟨Nat.le_of_ble_eq_true rfl, Nat.le_of_ble_eq_true rfl⟩ (rest := []) (q0 := 1) rfl rfl [1] rfl (Nat.le_of_ble_eq_true rfl) dX5_entry_5 ⟨Nat.le_of_ble_eq_true rfl, Nat.le_of_ble_eq_true rfl⟩ rfl (g_ki (fun r hr => ?_))
  subst hr
  have := bt_lt (hsB en es.length)
  refine g_if_neN C dX5_entry_8 (tgt := 21) (by decide) (by omega) (fun h8 => ?_) (fun h8 => ?_)
  · skip
    obtain ⟨k, hk, rfl⟩ := hs_1 h8
    refine g_iload_n C dX5_entry_21 2 rfl rfl ?_
    rcases in_3 wh with rfl | rfl | rfl | rfl | hno
    · skip
      refine g_tableIn C dX5_entry_22 (by decide) (by decide) (off := 30) (by decide) (tgt := 52) (by decide) ?_
      refine g_aload_n C dX5_entry_52 0 rfl rfl ?_
      refine g_get C 0 rfl rfl 1 (by decide) (fun _ h => (List.mem_cons_of_mem _ (List.mem_append_left _ (List.mem_append_left _ (List.mem_append_right _ h))))) 3 rfl rfl rfl dX5_entry_53 ?_
      refine g_iload_n C dX5_entry_56 1 rfl rfl ?_
      refine g_callPV C ⟨g_X0_ok, trivial⟩ (t_X2_costOf l D ty k0 kf ko ka kb kt kl kp es tF st ht hb hco k (by omega) hl0) rfl gX5_entry_X2_costOf 1 (by decide +kernel) rfl ⟨rfl, rfl⟩ ⟨Nat.le_of_ble_eq_true rfl, Nat.le_of_ble_eq_true rfl⟩ (rest := []) (q0 := 1) rfl rfl [1, 5] rfl (Nat.le_of_ble_eq_true rfl) dX5_entry_57 ⟨Nat.le_of_ble_eq_true rfl, Nat.le_of_ble_eq_true rfl⟩ rfl (g_ki (fun r hr => ?_))
      subst hr
      refine hR _ _ _ _ _ _ dX5_entry_60 ?_ (by omega) (by omega)
      exact ⟨k, 0, hk, rfl, by decide, rfl, rfl, rfl⟩
    · skip
      refine g_tableIn C dX5_entry_22 (by decide) (by decide) (off := 39) (by decide) (tgt := 61) (by decide) ?_
      refine g_aload_n C dX5_entry_61 0 rfl rfl ?_
      refine g_get C 0 rfl rfl 1 (by decide) (fun _ h => (List.mem_cons_of_mem _ (List.mem_append_left _ (List.mem_append_left _ (List.mem_append_right _ h))))) 3 rfl rfl rfl dX5_entry_62 ?_
      refine g_get C 1 rfl rfl 2 (by decide) (fun _ h => (List.mem_cons_of_mem _ (List.mem_append_left _ (List.mem_append_right _ h)))) 4 rfl rfl rfl dX5_entry_65 ?_
      refine g_iload_n C dX5_entry_68 1 rfl rfl ?_
      refine g_iald C (v := (eO es k)) 2 rfl (by omega) (by omega) (hw.1 k hk).2.1 dX5_entry_69 ?_
      refine hR _ _ _ _ _ _ dX5_entry_70 ?_ (by omega) (by omega)
      exact ⟨k, 1, hk, rfl, by decide, rfl, rfl, rfl⟩
    · skip
      refine g_tableIn C dX5_entry_22 (by decide) (by decide) (off := 49) (by decide) (tgt := 71) (by decide) ?_
      refine g_aload_n C dX5_entry_71 0 rfl rfl ?_
      refine g_get C 0 rfl rfl 1 (by decide) (fun _ h => (List.mem_cons_of_mem _ (List.mem_append_left _ (List.mem_append_left _ (List.mem_append_right _ h))))) 3 rfl rfl rfl dX5_entry_72 ?_
      refine g_get C 1 rfl rfl 3 (by decide) (fun _ h => (List.mem_cons_of_mem _ (List.mem_append_left _ (List.mem_append_right _ h)))) 5 rfl rfl rfl dX5_entry_75 ?_
      refine g_iload_n C dX5_entry_78 1 rfl rfl ?_
      refine g_iald C (v := (eA es k)) 3 rfl (by omega) (by omega) (hw.1 k hk).2.2.1 dX5_entry_79 ?_
      refine hR _ _ _ _ _ _ dX5_entry_80 ?_ (by omega) (by omega)
      exact ⟨k, 2, hk, rfl, by decide, rfl, rfl, rfl⟩
    · skip
      refine g_tableIn C dX5_entry_22 (by decide) (by decide) (off := 59) (by decide) (tgt := 81) (by decide) ?_
      refine g_aload_n C dX5_entry_81 0 rfl rfl ?_
      refine g_get C 0 rfl rfl 1 (by decide) (fun _ h => (List.mem_cons_of_mem _ (List.mem_append_left _ (List.mem_append_left _ (List.mem_append_right _ h))))) 3 rfl rfl rfl dX5_entry_82 ?_
      refine g_get C 1 rfl rfl 4 (by decide) (fun _ h => (List.mem_cons_of_mem _ (List.mem_append_left _ (List.mem_append_right _ h)))) 6 rfl rfl rfl dX5_entry_85 ?_
      refine g_iload_n C dX5_entry_88 1 rfl rfl ?_
      refine g_iald C (v := (eB es k)) 4 rfl (by omega) (by omega) (hw.1 k hk).2.2.2 dX5_entry_89 ?_
      refine hR _ _ _ _ _ _ dX5_entry_90 ?_ (by omega) (by omega)
      exact ⟨k, 3, hk, rfl, by decide, rfl, rfl, rfl⟩
    · skip
      refine g_tableOut C dX5_entry_22 hno (tgt := 91) (by decide) ?_
      exact hTh 0 10 91 41 1 2 _ _ (by decide) (by decide) (⟨rfl, Or.inr hno⟩) rfl rfl (fun _ h => (List.mem_cons_of_mem _ (List.mem_append_right _ h))) dX5_entry_91 dX5_entry_94 dX5_entry_95 dX5_entry_97 dX5_entry_100 rfl
  · skip
    have hno := hs_0 h8
    exact hTh 0 9 11 41 1 2 _ _ (by decide) (by decide) (⟨rfl, Or.inl hno⟩) rfl rfl (fun _ h => (List.mem_cons_of_mem _ (List.mem_append_right _ h))) dX5_entry_11 dX5_entry_14 dX5_entry_15 dX5_entry_17 dX5_entry_20 rfl

abbrev rm_t_X5_find : Room := ({ frames := 2, cells := 0, slots := 0, locals := 48 } : Room)
set_option maxHeartbeats 4000000 in
set_option maxRecDepth 100000 in
theorem t_X5_find (l : Launch) (D : va_G) (ty : g_T3) (x0 s0 p0 t0 : Nat) (k0 kf ko ka kb kt kl kp : Nat) (es : List Ent) (fF : Nat → Int64) (oF aF bF tF sF pF : Nat → Int32) (hw : rowOk es fF oF aF bF sF) (f : Int64) : g_P l yX5_find wsX5_find rm_t_X5_find D ty g_X0 [.ref x0, .long f] [(x0, .inr (4, [.ref s0, .ref k0, .ref p0, .ref t0])), (k0, .inr (1, [.int (nI es.length), .ref kf, .ref ko, .ref ka, .ref kb, .ref kt, .ref kl, .ref kp])), (kf, .inl (ty.2.1, 2000, .inr (.inl fF))), (kl, .inl (ty.1, 4096, .inl sF))] (g_pi (fun r => r = nI (fnN es f es.length) - 1)) := by
  refine g_ofPi (cc := cX5_find) (nL := 3) (own := RX5) (by decide) rfl rfl g_X0_ok (Nat.le_of_ble_eq_true rfl) ?_
  intro p e s m args below meth c Q C hX hR
  refine g_lv (lv' := [(0, .ref x0), (1, .long f)]) [0, 1] rfl ?_
  refine g_aload_n C dX5_find_0 0 rfl rfl ?_
  refine g_get C 0 rfl rfl 1 (by decide) (fun _ h => (List.mem_cons_of_mem _ (List.mem_append_left _ (List.mem_append_right _ h)))) 1 rfl rfl rfl dX5_find_1 ?_
  refine g_lload_n C dX5_find_4 1 rfl rfl ?_
  refine g_callPV C ⟨g_X0_ok, trivial⟩ (t_X2_entryWith l D ty k0 kf ko ka kb kt kl kp es fF oF aF bF tF sF pF hw f) rfl gX5_find_X2_entryWith 1 (by decide +kernel) rfl ⟨rfl, rfl⟩ ⟨Nat.le_of_ble_eq_true rfl, Nat.le_of_ble_eq_true rfl⟩ (rest := []) (q0 := 1) rfl rfl [1, 2, 3] rfl (Nat.le_of_ble_eq_true rfl) dX5_find_5 ⟨Nat.le_of_ble_eq_true rfl, Nat.le_of_ble_eq_true rfl⟩ rfl (g_ki (fun r hr => ?_))
  subst hr
  exact hR _ _ _ _ dX5_find_8 (rfl)

abbrev rm_t_X5_fit : Room := ({ frames := 6, cells := 1, slots := 6, locals := 82 } : Room)
set_option maxHeartbeats 4000000 in
set_option maxRecDepth 100000 in
theorem t_X5_fit (l : Launch) (hfl : l.stackTraces = false) (D : va_G) (ty : g_T3) (x0 s0 p0 t0 : Nat) (k0 kf ko ka kb kt kl kp : Nat) (es : List Ent) (fF : Nat → Int64) (oF aF bF tF sF pF : Nat → Int32) (hw : rowOk es fF oF aF bF sF) (f : Int64) (o : Int32) : g_T l yX5_fit wsX5_fit rm_t_X5_fit D ty g_XT [.ref x0, .long f, .int o] [(x0, .inr (4, [.ref s0, .ref k0, .ref p0, .ref t0])), (k0, .inr (1, [.int (nI es.length), .ref kf, .ref ko, .ref ka, .ref kb, .ref kt, .ref kl, .ref kp])), (kf, .inl (ty.2.1, 2000, .inr (.inl fF)))] 1 6 (g_ui (fun r w => ∃ k, k ≤ 65535 ∧ o = nI k ∧ fstI (fun j => (eF es j ^^^ f) &&& mkN k 16 = 0) es.length r ∧ w = [(x0, .inr (4, [.ref s0, .ref k0, .ref p0, .ref t0])), (k0, .inr (1, [.int (nI es.length), .ref kf, .ref ko, .ref ka, .ref kb, .ref kt, .ref kl, .ref kp])), (kf, .inl (ty.2.1, 2000, .inr (.inl fF)))])) (fun E => (E = x_IA ∧ (o.toInt < 0 ∨ 65535 < o.toInt))) := by
  refine g_ofTi hfl (cc := cX5_fit) (nL := 4) (by decide) rfl rfl (Nat.le_of_ble_eq_true rfl) ⟨Nat.le_of_ble_eq_true rfl, Nat.le_of_ble_eq_true rfl, Nat.le_of_ble_eq_true rfl, Nat.le_of_ble_eq_true rfl, Nat.le_of_ble_eq_true rfl, Nat.le_of_ble_eq_true rfl⟩ ?_
  intro p e s m args below meth c Q A C hA hX hin hTh hR
  refine g_lv (lv' := [(0, .ref x0), (1, .long f), (3, .int o)]) [0, 1, 2] rfl ?_
  refine g_iload_n C dX5_fit_0 2 rfl rfl ?_
  refine g_if_lt C dX5_fit_1 (tgt := 10) (by decide) (fun h1 => ?_) (fun h1 => ?_)
  · skip
    exact hTh 1 11 10 56 1 2 _ _ (by decide) (by decide) (⟨rfl, by omega⟩) rfl rfl (fun _ h => (List.mem_cons_of_mem _ (List.mem_append_right _ h))) dX5_fit_10 dX5_fit_13 dX5_fit_14 dX5_fit_16 dX5_fit_19 rfl
  · skip
    refine g_iload_n C dX5_fit_4 2 rfl rfl ?_
    refine g_ldc C (v := (nI 65535)) 3 rfl dX5_fit_5 ?_
    refine g_icmp_le C dX5_fit_7 (tgt := 20) (by decide) (fun h7 => ?_) (fun h7 => ?_)
    · skip
      rw [nI_toInt (by decide)] at h7
      obtain ⟨k, hk, rfl⟩ := nI_of_int (x := o) (n := 65535) (by omega) (by omega)
      refine g_aload_n C dX5_fit_20 0 rfl rfl ?_
      refine g_get C 0 rfl rfl 1 (by decide) (fun _ h => (List.mem_cons_of_mem _ (List.mem_append_left _ (List.mem_append_left _ (List.mem_append_right _ h))))) 4 rfl rfl rfl dX5_fit_21 ?_
      refine g_lload_n C dX5_fit_24 1 rfl rfl ?_
      refine g_iload_n C dX5_fit_25 2 rfl rfl ?_
      refine g_callPS C ⟨g_X0_ok, trivial⟩ (t_X0_maskOf l D ty k (by omega)) rfl gX5_fit_X0_maskOf 1 (by decide +kernel) rfl ⟨rfl, rfl⟩ ⟨Nat.le_of_ble_eq_true rfl, Nat.le_of_ble_eq_true rfl⟩ (rest := [.long f, .ref k0]) [] rfl (Nat.le_of_ble_eq_true rfl) dX5_fit_26 ⟨Nat.le_of_ble_eq_true rfl, Nat.le_of_ble_eq_true rfl⟩ rfl (g_kl (fun r hr => ?_))
      subst hr
      refine g_callPV C ⟨g_X0_ok, trivial⟩ (t_X2_firstAlike l D ty k0 kf ko ka kb kt kl kp es fF oF aF bF tF sF pF hw f (mkN k 16)) rfl gX5_fit_X2_firstAlike 2 (by decide +kernel) rfl ⟨rfl, rfl⟩ ⟨Nat.le_of_ble_eq_true rfl, Nat.le_of_ble_eq_true rfl⟩ (rest := []) (q0 := 1) rfl rfl [1, 2] rfl (Nat.le_of_ble_eq_true rfl) dX5_fit_29 ⟨Nat.le_of_ble_eq_true rfl, Nat.le_of_ble_eq_true rfl⟩ rfl (g_ki (fun rr9 hr => ?_))
      refine hR _ _ _ _ _ _ dX5_fit_32 ?_ (by omega) (by omega)
      exact ⟨k, hk, rfl, hr, rfl⟩
    · skip
      rw [nI_toInt (by decide)] at h7
      exact hTh 1 11 10 56 1 2 _ _ (by decide) (by decide) (⟨rfl, by omega⟩) rfl rfl (fun _ h => (List.mem_cons_of_mem _ (List.mem_append_right _ h))) dX5_fit_10 dX5_fit_13 dX5_fit_14 dX5_fit_16 dX5_fit_19 rfl

abbrev rm_t_X5_near : Room := ({ frames := 3, cells := 0, slots := 0, locals := 72 } : Room)
set_option maxHeartbeats 4000000 in
set_option maxRecDepth 100000 in
theorem t_X5_near (l : Launch) (D : va_G) (ty : g_T3) (x0 s0 p0 t0 : Nat) (k0 kf ko ka kb kt kl kp : Nat) (es : List Ent) (fF : Nat → Int64) (oF aF bF tF sF pF : Nat → Int32) (hw : rowOk es fF oF aF bF sF) (f : Int64) : g_P l yX5_near wsX5_near rm_t_X5_near D ty g_X0 [.ref x0, .long f] [(x0, .inr (4, [.ref s0, .ref k0, .ref p0, .ref t0])), (k0, .inr (1, [.int (nI es.length), .ref kf, .ref ko, .ref ka, .ref kb, .ref kt, .ref kl, .ref kp])), (kf, .inl (ty.2.1, 2000, .inr (.inl fF)))] (g_pi (fun r => r = (nrN (fun j => lbc (dfF (eF es j) f)) es.length).1)) := by
  refine g_ofPi (cc := cX5_near) (nL := 3) (own := RX5) (by decide) rfl rfl g_X0_ok (Nat.le_of_ble_eq_true rfl) ?_
  intro p e s m args below meth c Q C hX hR
  refine g_lv (lv' := [(0, .ref x0), (1, .long f)]) [0, 1] rfl ?_
  refine g_aload_n C dX5_near_0 0 rfl rfl ?_
  refine g_get C 0 rfl rfl 1 (by decide) (fun _ h => (List.mem_cons_of_mem _ (List.mem_append_left _ (List.mem_append_right _ h)))) 1 rfl rfl rfl dX5_near_1 ?_
  refine g_lload_n C dX5_near_4 1 rfl rfl ?_
  refine g_callPV C ⟨g_X0_ok, trivial⟩ (t_X2_firstNearest l D ty k0 kf ko ka kb kt kl kp es fF oF aF bF tF sF pF hw f) rfl gX5_near_X2_firstNearest 1 (by decide +kernel) rfl ⟨rfl, rfl⟩ ⟨Nat.le_of_ble_eq_true rfl, Nat.le_of_ble_eq_true rfl⟩ (rest := []) (q0 := 1) rfl rfl [1, 2] rfl (Nat.le_of_ble_eq_true rfl) dX5_near_5 ⟨Nat.le_of_ble_eq_true rfl, Nat.le_of_ble_eq_true rfl⟩ rfl (g_ki (fun r hr => ?_))
  subst hr
  exact hR _ _ _ _ dX5_near_8 (rfl)

abbrev rm_t_X5_parts : Room := ({ frames := 6, cells := 1, slots := 6, locals := 82 } : Room)
set_option maxHeartbeats 4000000 in
set_option maxRecDepth 100000 in
theorem t_X5_parts (l : Launch) (hfl : l.stackTraces = false) (D : va_G) (ty : g_T3) (x0 s0 p0 t0 : Nat) (k0 kf ko ka kb kt kl kp : Nat) (es : List Ent) (fF : Nat → Int64) (oF aF bF tF sF pF : Nat → Int32) (hw : rowOk es fF oF aF bF sF) (hwf : wfE es) (en : Int32) : g_T l yX5_parts wsX5_parts rm_t_X5_parts D ty g_XT [.ref x0, .int en] [(x0, .inr (4, [.ref s0, .ref k0, .ref p0, .ref t0])), (k0, .inr (1, [.int (nI es.length), .ref kf, .ref ko, .ref ka, .ref kb, .ref kt, .ref kl, .ref kp])), (ko, .inl (ty.1, 2000, .inl oF)), (ka, .inl (ty.1, 2000, .inl aF)), (kb, .inl (ty.1, 2000, .inl bF)), (kp, .inl (ty.1, 13, .inl pF))] 1 6 (g_ui (fun r w => ∃ (k n : Nat) (pF2 : Nat → Int32), k < es.length ∧ en = nI k ∧ r = nI n ∧ prt es k n ∧ w = [(x0, .inr (4, [.ref s0, .ref k0, .ref p0, .ref t0])), (k0, .inr (1, [.int (nI es.length), .ref kf, .ref ko, .ref ka, .ref kb, .ref kt, .ref kl, .ref kp])), (ko, .inl (ty.1, 2000, .inl oF)), (ka, .inl (ty.1, 2000, .inl aF)), (kb, .inl (ty.1, 2000, .inl bF)), (kp, .inl (ty.1, 13, .inl pF2))])) (fun E => (E = x_IO ∧ (en.toInt < 0 ∨ (es.length : Int) ≤ en.toInt))) := by
  refine g_ofTi hfl (cc := cX5_parts) (nL := 2) (by decide) rfl rfl (Nat.le_of_ble_eq_true rfl) ⟨Nat.le_of_ble_eq_true rfl, Nat.le_of_ble_eq_true rfl, Nat.le_of_ble_eq_true rfl, Nat.le_of_ble_eq_true rfl, Nat.le_of_ble_eq_true rfl, Nat.le_of_ble_eq_true rfl⟩ ?_
  intro p e s m args below meth c Q A C hA hX hin hTh hR
  refine g_lv (lv' := [(0, .ref x0), (1, .int en)]) [0, 1] rfl ?_
  have hl0 := hw.2.2.2
  refine g_aload_n C dX5_parts_0 0 rfl rfl ?_
  refine g_get C 0 rfl rfl 1 (by decide) (fun _ h => (List.mem_cons_of_mem _ (List.mem_append_left _ (List.mem_append_left _ (List.mem_append_right _ h))))) 3 rfl rfl rfl dX5_parts_1 ?_
  refine g_iload_n C dX5_parts_4 1 rfl rfl ?_
  refine g_callPV C ⟨g_X0_ok, trivial⟩ (t_X2_has l D ty k0 kf ko ka kb kt kl kp es.length (by omega) en) rfl gX5_parts_X2_has 1 (by decide +kernel) rfl ⟨rfl, rfl⟩ ⟨Nat.le_of_ble_eq_true rfl, Nat.le_of_ble_eq_true rfl⟩ (rest := []) (q0 := 1) rfl rfl [1] rfl (Nat.le_of_ble_eq_true rfl) dX5_parts_5 ⟨Nat.le_of_ble_eq_true rfl, Nat.le_of_ble_eq_true rfl⟩ rfl (g_ki (fun r hr => ?_))
  subst hr
  have := bt_lt (hsB en es.length)
  refine g_if_neN C dX5_parts_8 (tgt := 21) (by decide) (by omega) (fun h8 => ?_) (fun h8 => ?_)
  · skip
    obtain ⟨k, hk, rfl⟩ := hs_1 h8
    refine g_aload_n C dX5_parts_21 0 rfl rfl ?_
    refine g_get C 0 rfl rfl 1 (by decide) (fun _ h => (List.mem_cons_of_mem _ (List.mem_append_left _ (List.mem_append_left _ (List.mem_append_right _ h))))) 3 rfl rfl rfl dX5_parts_22 ?_
    refine g_iload_n C dX5_parts_25 1 rfl rfl ?_
    refine g_callUV C ⟨g_X0_ok, trivial⟩ (t_X2_countParts l D ty k0 kf ko ka kb kt kl kp es fF oF aF bF tF sF pF hw hwf k hk pF) rfl gX5_parts_X2_countParts 1 (by decide +kernel) rfl ⟨rfl, rfl⟩ ⟨Nat.le_of_ble_eq_true rfl, Nat.le_of_ble_eq_true rfl⟩ (rest := []) (q0 := 1) rfl rfl hA [1, 2, 3, 4, 5] [0] rfl rfl rfl (wr := [(x0, .inr (4, [.ref s0, .ref k0, .ref p0, .ref t0]))]) rfl rfl rfl (Nat.le_of_ble_eq_true rfl) dX5_parts_26 ⟨Nat.le_of_ble_eq_true rfl, Nat.le_of_ble_eq_true rfl⟩ rfl (g_kui (fun r w hr => ?_))
    obtain ⟨np26, pF26, rfl, h13, hpr, rfl⟩ := hr
    refine g_ws (ws' := [(x0, .inr (4, [.ref s0, .ref k0, .ref p0, .ref t0])), (k0, .inr (1, [.int (nI es.length), .ref kf, .ref ko, .ref ka, .ref kb, .ref kt, .ref kl, .ref kp])), (ko, .inl (ty.1, 2000, .inl oF)), (ka, .inl (ty.1, 2000, .inl aF)), (kb, .inl (ty.1, 2000, .inl bF)), (kp, .inl (ty.1, 13, .inl pF26))]) [0, 1, 2, 3, 4, 5] rfl rfl rfl ?_
    refine hR _ _ _ _ _ _ dX5_parts_29 ?_ (by omega) (by omega)
    exact ⟨k, _, _, hk, rfl, rfl, hpr, rfl⟩
  · skip
    have hno := hs_0 h8
    exact hTh 0 9 11 41 1 2 _ _ (by decide) (by decide) (⟨rfl, hno⟩) rfl rfl (fun _ h => (List.mem_cons_of_mem _ (List.mem_append_right _ h))) dX5_parts_11 dX5_parts_14 dX5_parts_15 dX5_parts_17 dX5_parts_20 rfl

abbrev rm_t_X5_write : Room := ({ frames := 32, cells := 1, slots := 6, locals := 924 } : Room)
set_option maxHeartbeats 4000000 in
set_option maxRecDepth 100000 in
theorem t_X5_write (l : Launch) (hfl : l.stackTraces = false) (D : va_G) (ty : g_T3) (x0 s0 p0 t0 : Nat) (k0 kf ko ka kb kt kl kp : Nat) (es : List Ent) (fF : Nat → Int64) (oF aF bF tF sF pF : Nat → Int32) (hw : rowOk es fF oF aF bF sF) (hwf : wfE es) (py : Nat) (pb : Nat → Nat) (nv : Nat) (en : Int32) : g_T l yX5_write wsX5_write rm_t_X5_write D ty g_XT [.ref x0, .int en] [(x0, .inr (4, [.ref s0, .ref k0, .ref p0, .ref t0])), (p0, .inr (0, [.int (nI nv), .ref py])), (py, .inl (ty.1, 30, .inl (zN pb))), (k0, .inr (1, [.int (nI es.length), .ref kf, .ref ko, .ref ka, .ref kb, .ref kt, .ref kl, .ref kp])), (ko, .inl (ty.1, 2000, .inl oF)), (ka, .inl (ty.1, 2000, .inl aF)), (kb, .inl (ty.1, 2000, .inl bF))] 1 6 (g_ui (fun r w => ∃ k, k < es.length ∧ en = nI k ∧ r = nI (fmE es 7 k).length ∧ w = [(x0, .inr (4, [.ref s0, .ref k0, .ref p0, .ref t0])), (p0, .inr (0, [.int (nI ((fmE es 7 k).length)), .ref py])), (py, .inl (ty.1, 30, .inl (zN (apL pb 0 (fmE es 7 k))))), (k0, .inr (1, [.int (nI es.length), .ref kf, .ref ko, .ref ka, .ref kb, .ref kt, .ref kl, .ref kp])), (ko, .inl (ty.1, 2000, .inl oF)), (ka, .inl (ty.1, 2000, .inl aF)), (kb, .inl (ty.1, 2000, .inl bF))])) (fun E => (E = x_IO ∧ (en.toInt < 0 ∨ (es.length : Int) ≤ en.toInt))) := by
  refine g_ofTi hfl (cc := cX5_write) (nL := 2) (by decide) rfl rfl (Nat.le_of_ble_eq_true rfl) ⟨Nat.le_of_ble_eq_true rfl, Nat.le_of_ble_eq_true rfl, Nat.le_of_ble_eq_true rfl, Nat.le_of_ble_eq_true rfl, Nat.le_of_ble_eq_true rfl, Nat.le_of_ble_eq_true rfl⟩ ?_
  intro p e s m args below meth c Q A C hA hX hin hTh hR
  refine g_lv (lv' := [(0, .ref x0), (1, .int en)]) [0, 1] rfl ?_
  have hl0 := hw.2.2.2
  refine g_aload_n C dX5_write_0 0 rfl rfl ?_
  refine g_get C 0 rfl rfl 1 (by decide) (fun _ h => (List.mem_cons_of_mem _ (List.mem_append_left _ (List.mem_append_left _ (List.mem_append_left _ (List.mem_append_right _ h)))))) 3 rfl rfl rfl dX5_write_1 ?_
  refine g_iload_n C dX5_write_4 1 rfl rfl ?_
  refine g_callPV C ⟨g_X0_ok, trivial⟩ (t_X2_has l D ty k0 kf ko ka kb kt kl kp es.length (by omega) en) rfl gX5_write_X2_has 1 (by decide +kernel) rfl ⟨rfl, rfl⟩ ⟨Nat.le_of_ble_eq_true rfl, Nat.le_of_ble_eq_true rfl⟩ (rest := []) (q0 := 3) rfl rfl [3] rfl (Nat.le_of_ble_eq_true rfl) dX5_write_5 ⟨Nat.le_of_ble_eq_true rfl, Nat.le_of_ble_eq_true rfl⟩ rfl (g_ki (fun r hr => ?_))
  subst hr
  have := bt_lt (hsB en es.length)
  refine g_if_neN C dX5_write_8 (tgt := 21) (by decide) (by omega) (fun h8 => ?_) (fun h8 => ?_)
  · skip
    obtain ⟨k, hk, rfl⟩ := hs_1 h8
    refine g_aload_n C dX5_write_21 0 rfl rfl ?_
    refine g_get C 0 rfl rfl 2 (by decide) (fun _ h => (List.mem_cons_of_mem _ (List.mem_append_left _ (List.mem_append_left _ (List.mem_append_left _ (List.mem_append_right _ h)))))) 4 rfl rfl rfl dX5_write_22 ?_
    refine g_iconst C dX5_write_25 (v := (nI 0)) (by decide) ?_
    refine g_put C 1 rfl rfl 0 (by decide) (fun _ h => (List.mem_cons_of_mem _ (List.mem_append_left _ (List.mem_append_left _ (List.mem_append_right _ h))))) 5 rfl rfl tyX1 tyX1_ok nmX1 rfl rfl rfl rfl (Nat.le_of_ble_eq_true rfl) (ws' := [(x0, .inr (4, [.ref s0, .ref k0, .ref p0, .ref t0])), (p0, .inr (0, [.int (nI 0), .ref py])), (py, .inl (ty.1, 30, .inl (zN pb))), (k0, .inr (1, [.int (nI es.length), .ref kf, .ref ko, .ref ka, .ref kb, .ref kt, .ref kl, .ref kp])), (ko, .inl (ty.1, 2000, .inl oF)), (ka, .inl (ty.1, 2000, .inl aF)), (kb, .inl (ty.1, 2000, .inl bF))]) rfl dX5_write_26 ?_
    refine g_aload_n C dX5_write_29 0 rfl rfl ?_
    refine g_get C 0 rfl rfl 2 (by decide) (fun _ h => (List.mem_cons_of_mem _ (List.mem_append_left _ (List.mem_append_left _ (List.mem_append_left _ (List.mem_append_right _ h)))))) 4 rfl rfl rfl dX5_write_30 ?_
    refine g_aload_n C dX5_write_33 0 rfl rfl ?_
    refine g_get C 0 rfl rfl 1 (by decide) (fun _ h => (List.mem_cons_of_mem _ (List.mem_append_left _ (List.mem_append_left _ (List.mem_append_left _ (List.mem_append_right _ h)))))) 3 rfl rfl rfl dX5_write_34 ?_
    refine g_iload_n C dX5_write_37 1 rfl rfl ?_
    refine g_iconst C dX5_write_38 (v := (nI 0)) (by decide) ?_
    refine g_callUVN C ⟨g_XN_ok, hX.2.1⟩ (t_X1_lev l D ty p0 py k0 kf ko ka kb kt kl kp es oF aF bF (fun i hi => (hw.1 i hi).2) hwf hl0 7 pb 0 0 k hk (by have := (hwf k hk).1; omega) (by have := fm_len30 (n := 7) hwf hl0 hk (by have := (hwf k hk).1; omega); omega) (by decide)) rfl (hX.2.1.1 6 (by decide)) ggX5_write_X1_putEntry 13 12 rfl 14 rfl rfl 3 (by decide +kernel) rfl ⟨rfl, rfl⟩ ⟨Nat.le_of_ble_eq_true rfl, Nat.le_of_ble_eq_true rfl⟩ (rest := []) (q0 := 1) rfl rfl hA [1, 2, 3, 4, 5, 6] [0] rfl rfl rfl (wr := [(x0, .inr (4, [.ref s0, .ref k0, .ref p0, .ref t0]))]) rfl rfl rfl (Nat.le_of_ble_eq_true rfl) dX5_write_39 ⟨Nat.le_of_ble_eq_true rfl, Nat.le_of_ble_eq_true rfl⟩ rfl (g_kuv (fun w hr => ?_))
    subst hr
    refine g_ws (ws' := [(x0, .inr (4, [.ref s0, .ref k0, .ref p0, .ref t0])), (p0, .inr (0, [.int (nI (0 + (fmE es 7 k).length)), .ref py])), (py, .inl (ty.1, 30, .inl (zN (apL pb 0 (fmE es 7 k))))), (k0, .inr (1, [.int (nI es.length), .ref kf, .ref ko, .ref ka, .ref kb, .ref kt, .ref kl, .ref kp])), (ko, .inl (ty.1, 2000, .inl oF)), (ka, .inl (ty.1, 2000, .inl aF)), (kb, .inl (ty.1, 2000, .inl bF))]) [0, 1, 2, 3, 4, 5, 6] rfl rfl rfl ?_
    refine g_aload_n C dX5_write_42 0 rfl rfl ?_
    refine g_get C 0 rfl rfl 2 (by decide) (fun _ h => (List.mem_cons_of_mem _ (List.mem_append_left _ (List.mem_append_left _ (List.mem_append_left _ (List.mem_append_right _ h)))))) 4 rfl rfl rfl dX5_write_43 ?_
    refine g_get C 1 rfl rfl 0 (by decide) (fun _ h => (List.mem_cons_of_mem _ (List.mem_append_left _ (List.mem_append_left _ (List.mem_append_right _ h))))) 5 rfl rfl rfl dX5_write_46 ?_
    refine hR _ _ _ _ _ _ dX5_write_49 ?_ (by omega) (by omega)
    rw [Nat.zero_add]; exact ⟨k, hk, rfl, rfl, rfl⟩
  · skip
    have hno := hs_0 h8
    exact hTh 0 9 11 41 1 2 _ _ (by decide) (by decide) (⟨rfl, hno⟩) rfl rfl (fun _ h => (List.mem_cons_of_mem _ (List.mem_append_right _ h))) dX5_write_11 dX5_write_14 dX5_write_15 dX5_write_17 dX5_write_20 rfl

abbrev rm_t_X5_byteAt : Room := ({ frames := 6, cells := 1, slots := 6, locals := 82 } : Room)
set_option maxHeartbeats 4000000 in
set_option maxRecDepth 100000 in
theorem t_X5_byteAt (l : Launch) (hfl : l.stackTraces = false) (D : va_G) (ty : g_T3) (x0 s0 k0 t0 : Nat) (p0 py : Nat) (pb : Nat → Nat) (nv : Nat) (hn : nv ≤ 30) (o : Int32) : g_T l yX5_byteAt wsX5_byteAt rm_t_X5_byteAt D ty g_XT [.ref x0, .int o] [(x0, .inr (4, [.ref s0, .ref k0, .ref p0, .ref t0])), (p0, .inr (0, [.int (nI nv), .ref py])), (py, .inl (ty.1, 30, .inl (zN pb)))] 1 6 (g_ui (fun r w => ∃ k, k < nv ∧ o = nI k ∧ r = nI (pb k) ∧ w = [(x0, .inr (4, [.ref s0, .ref k0, .ref p0, .ref t0])), (p0, .inr (0, [.int (nI nv), .ref py])), (py, .inl (ty.1, 30, .inl (zN pb)))])) (fun E => (E = x_IO ∧ (o.toInt < 0 ∨ (nv : Int) ≤ o.toInt))) := by
  refine g_ofTi hfl (cc := cX5_byteAt) (nL := 2) (by decide) rfl rfl (Nat.le_of_ble_eq_true rfl) ⟨Nat.le_of_ble_eq_true rfl, Nat.le_of_ble_eq_true rfl, Nat.le_of_ble_eq_true rfl, Nat.le_of_ble_eq_true rfl, Nat.le_of_ble_eq_true rfl, Nat.le_of_ble_eq_true rfl⟩ ?_
  intro p e s m args below meth c Q A C hA hX hin hTh hR
  refine g_lv (lv' := [(0, .ref x0), (1, .int o)]) [0, 1] rfl ?_
  refine g_iload_n C dX5_byteAt_0 1 rfl rfl ?_
  refine g_if_lt C dX5_byteAt_1 (tgt := 15) (by decide) (fun h1 => ?_) (fun h1 => ?_)
  · skip
    exact hTh 0 12 15 41 1 2 _ _ (by decide) (by decide) (⟨rfl, by omega⟩) rfl rfl (fun _ h => (List.mem_cons_of_mem _ (List.mem_append_right _ h))) dX5_byteAt_15 dX5_byteAt_18 dX5_byteAt_19 dX5_byteAt_21 dX5_byteAt_24 rfl
  · skip
    refine g_iload_n C dX5_byteAt_4 1 rfl rfl ?_
    refine g_aload_n C dX5_byteAt_5 0 rfl rfl ?_
    refine g_get C 0 rfl rfl 2 (by decide) (fun _ h => (List.mem_cons_of_mem _ (List.mem_append_left _ (List.mem_append_left _ (List.mem_append_right _ h))))) 3 rfl rfl rfl dX5_byteAt_6 ?_
    refine g_get C 1 rfl rfl 0 (by decide) (fun _ h => (List.mem_cons_of_mem _ (List.mem_append_left _ (List.mem_append_right _ h)))) 4 rfl rfl rfl dX5_byteAt_9 ?_
    refine g_icmp_lt C dX5_byteAt_12 (tgt := 25) (by decide) (fun h12 => ?_) (fun h12 => ?_)
    · skip
      rw [nI_toInt (by omega)] at h12
      obtain ⟨k, hk, rfl⟩ := nI_of_int (x := o) (n := nv) (by omega) (by omega)
      rw [nI_toInt (by omega)] at h12
      refine g_aload_n C dX5_byteAt_25 0 rfl rfl ?_
      refine g_get C 0 rfl rfl 2 (by decide) (fun _ h => (List.mem_cons_of_mem _ (List.mem_append_left _ (List.mem_append_left _ (List.mem_append_right _ h))))) 3 rfl rfl rfl dX5_byteAt_26 ?_
      refine g_get C 1 rfl rfl 1 (by decide) (fun _ h => (List.mem_cons_of_mem _ (List.mem_append_left _ (List.mem_append_right _ h)))) 5 rfl rfl rfl dX5_byteAt_29 ?_
      refine g_iload_n C dX5_byteAt_32 1 rfl rfl ?_
      refine g_iald C (v := (nI (pb k))) 2 rfl (by omega) (by omega) rfl dX5_byteAt_33 ?_
      refine hR _ _ _ _ _ _ dX5_byteAt_34 ?_ (by omega) (by omega)
      exact ⟨k, by omega, rfl, rfl, rfl⟩
    · skip
      rw [nI_toInt (by omega)] at h12
      exact hTh 0 12 15 41 1 2 _ _ (by decide) (by decide) (⟨rfl, by omega⟩) rfl rfl (fun _ h => (List.mem_cons_of_mem _ (List.mem_append_right _ h))) dX5_byteAt_15 dX5_byteAt_18 dX5_byteAt_19 dX5_byteAt_21 dX5_byteAt_24 rfl

abbrev rm_t_X5_feed : Room := ({ frames := 6, cells := 1, slots := 6, locals := 82 } : Room)
set_option maxHeartbeats 4000000 in
set_option maxRecDepth 100000 in
theorem t_X5_feed (l : Launch) (hfl : l.stackTraces = false) (D : va_G) (ty : g_T3) (x0 s0 k0 p0 : Nat) (t0 tz tl : Nat) (lf : Int64) (tb : Nat → Nat) (hb : ∀ i, tb i < 256) (htl : tl ≤ 300) (pl er i1 i2 i3 i4 i5 : Int32) : g_T l yX5_feed wsX5_feed rm_t_X5_feed D ty g_XT [.ref x0, .int i1, .int i2, .int i3, .int i4, .int i5] [(x0, .inr (4, [.ref s0, .ref k0, .ref p0, .ref t0])), (t0, .inr (3, [.int (nI tl), .long lf, .ref tz, .int pl, .int er])), (tz, .inl (ty.1, 300, .inl (zN tb)))] 1 6 (g_ui (fun r w => tl + 20 ≤ 300 ∧ r = nI (tl + 20) ∧ w = [(x0, .inr (4, [.ref s0, .ref k0, .ref p0, .ref t0])), (t0, .inr (3, [.int (nI (tl + 20)), .long lf, .ref tz, .int pl, .int er])), (tz, .inl (ty.1, 300, .inl (zN (ap4 (ap4 (ap4 (ap4 (ap4 tb tl i1) (tl + 4) i2) (tl + 4 + 4) i3) (tl + 4 + 4 + 4) i4) (tl + 4 + 4 + 4 + 4) i5))))])) (fun E => (E = x_IS ∧ 300 < tl + 20)) := by
  refine g_ofTi hfl (cc := cX5_feed) (nL := 6) (by decide) rfl rfl (Nat.le_of_ble_eq_true rfl) ⟨Nat.le_of_ble_eq_true rfl, Nat.le_of_ble_eq_true rfl, Nat.le_of_ble_eq_true rfl, Nat.le_of_ble_eq_true rfl, Nat.le_of_ble_eq_true rfl, Nat.le_of_ble_eq_true rfl⟩ ?_
  intro p e s m args below meth c Q A C hA hX hin hTh hR
  refine g_lv (lv' := [(0, .ref x0), (1, .int i1), (2, .int i2), (3, .int i3), (4, .int i4), (5, .int i5)]) [0, 1, 2, 3, 4, 5] rfl ?_
  refine g_aload_n C dX5_feed_0 0 rfl rfl ?_
  refine g_get C 0 rfl rfl 3 (by decide) (fun _ h => (List.mem_cons_of_mem _ (List.mem_append_left _ (List.mem_append_left _ (List.mem_append_right _ h))))) 3 rfl rfl rfl dX5_feed_1 ?_
  refine g_get C 1 rfl rfl 0 (by decide) (fun _ h => (List.mem_cons_of_mem _ (List.mem_append_left _ (List.mem_append_right _ h)))) 4 rfl rfl rfl dX5_feed_4 ?_
  refine g_bipush C dX5_feed_7 (v := (nI 20)) (by decide) ?_
  refine g_iadd C dX5_feed_9 (v := (nI (tl + 20))) (nI_add _ _) ?_
  refine g_sipush C dX5_feed_10 (v := (nI 300)) (by decide) ?_
  refine g_icmp_leN C dX5_feed_13 (tgt := 26) (by decide) (by omega) (by omega) (fun h13 => ?_) (fun h13 => ?_)
  · skip
    refine g_aload_n C dX5_feed_26 0 rfl rfl ?_
    refine g_get C 0 rfl rfl 3 (by decide) (fun _ h => (List.mem_cons_of_mem _ (List.mem_append_left _ (List.mem_append_left _ (List.mem_append_right _ h))))) 3 rfl rfl rfl dX5_feed_27 ?_
    refine g_iload_n C dX5_feed_30 1 rfl rfl ?_
    refine g_callUV C ⟨g_X0_ok, trivial⟩ (t_X4_append l D ty t0 tz tl lf tb hb (by omega) (by omega) pl er i1) rfl gX5_feed_X4_append 1 (by decide +kernel) rfl ⟨rfl, rfl⟩ ⟨Nat.le_of_ble_eq_true rfl, Nat.le_of_ble_eq_true rfl⟩ (rest := []) (q0 := 1) rfl rfl hA [1, 2] [0] rfl rfl rfl (wr := [(x0, .inr (4, [.ref s0, .ref k0, .ref p0, .ref t0]))]) rfl rfl rfl (Nat.le_of_ble_eq_true rfl) dX5_feed_31 ⟨Nat.le_of_ble_eq_true rfl, Nat.le_of_ble_eq_true rfl⟩ rfl (g_kuv (fun w hr => ?_))
    subst hr
    refine g_ws (ws' := [(x0, .inr (4, [.ref s0, .ref k0, .ref p0, .ref t0])), (t0, .inr (3, [.int (nI (tl + 4)), .long lf, .ref tz, .int pl, .int er])), (tz, .inl (ty.1, 300, .inl (zN (ap4 tb tl i1))))]) [0, 1, 2] rfl rfl rfl ?_
    refine g_aload_n C dX5_feed_34 0 rfl rfl ?_
    refine g_get C 0 rfl rfl 3 (by decide) (fun _ h => (List.mem_cons_of_mem _ (List.mem_append_left _ (List.mem_append_left _ (List.mem_append_right _ h))))) 3 rfl rfl rfl dX5_feed_35 ?_
    refine g_iload_n C dX5_feed_38 2 rfl rfl ?_
    refine g_callUV C ⟨g_X0_ok, trivial⟩ (t_X4_append l D ty t0 tz (tl + 4) lf (ap4 tb tl i1) (ap4_lt hb _ _) (by omega) (by omega) pl er i2) rfl gX5_feed_X4_append 1 (by decide +kernel) rfl ⟨rfl, rfl⟩ ⟨Nat.le_of_ble_eq_true rfl, Nat.le_of_ble_eq_true rfl⟩ (rest := []) (q0 := 1) rfl rfl hA [1, 2] [0] rfl rfl rfl (wr := [(x0, .inr (4, [.ref s0, .ref k0, .ref p0, .ref t0]))]) rfl rfl rfl (Nat.le_of_ble_eq_true rfl) dX5_feed_39 ⟨Nat.le_of_ble_eq_true rfl, Nat.le_of_ble_eq_true rfl⟩ rfl (g_kuv (fun w hr => ?_))
    subst hr
    refine g_ws (ws' := [(x0, .inr (4, [.ref s0, .ref k0, .ref p0, .ref t0])), (t0, .inr (3, [.int (nI ((tl + 4) + 4)), .long lf, .ref tz, .int pl, .int er])), (tz, .inl (ty.1, 300, .inl (zN (ap4 (ap4 tb tl i1) (tl + 4) i2))))]) [0, 1, 2] rfl rfl rfl ?_
    refine g_aload_n C dX5_feed_42 0 rfl rfl ?_
    refine g_get C 0 rfl rfl 3 (by decide) (fun _ h => (List.mem_cons_of_mem _ (List.mem_append_left _ (List.mem_append_left _ (List.mem_append_right _ h))))) 3 rfl rfl rfl dX5_feed_43 ?_
    refine g_iload_n C dX5_feed_46 3 rfl rfl ?_
    refine g_callUV C ⟨g_X0_ok, trivial⟩ (t_X4_append l D ty t0 tz ((tl + 4) + 4) lf (ap4 (ap4 tb tl i1) (tl + 4) i2) (ap4_lt (ap4_lt hb _ _) _ _) (by omega) (by omega) pl er i3) rfl gX5_feed_X4_append 1 (by decide +kernel) rfl ⟨rfl, rfl⟩ ⟨Nat.le_of_ble_eq_true rfl, Nat.le_of_ble_eq_true rfl⟩ (rest := []) (q0 := 1) rfl rfl hA [1, 2] [0] rfl rfl rfl (wr := [(x0, .inr (4, [.ref s0, .ref k0, .ref p0, .ref t0]))]) rfl rfl rfl (Nat.le_of_ble_eq_true rfl) dX5_feed_47 ⟨Nat.le_of_ble_eq_true rfl, Nat.le_of_ble_eq_true rfl⟩ rfl (g_kuv (fun w hr => ?_))
    subst hr
    refine g_ws (ws' := [(x0, .inr (4, [.ref s0, .ref k0, .ref p0, .ref t0])), (t0, .inr (3, [.int (nI (((tl + 4) + 4) + 4)), .long lf, .ref tz, .int pl, .int er])), (tz, .inl (ty.1, 300, .inl (zN (ap4 (ap4 (ap4 tb tl i1) (tl + 4) i2) ((tl + 4) + 4) i3))))]) [0, 1, 2] rfl rfl rfl ?_
    refine g_aload_n C dX5_feed_50 0 rfl rfl ?_
    refine g_get C 0 rfl rfl 3 (by decide) (fun _ h => (List.mem_cons_of_mem _ (List.mem_append_left _ (List.mem_append_left _ (List.mem_append_right _ h))))) 3 rfl rfl rfl dX5_feed_51 ?_
    refine g_iload C dX5_feed_54 4 rfl ?_
    refine g_callUV C ⟨g_X0_ok, trivial⟩ (t_X4_append l D ty t0 tz (((tl + 4) + 4) + 4) lf (ap4 (ap4 (ap4 tb tl i1) (tl + 4) i2) ((tl + 4) + 4) i3) (ap4_lt (ap4_lt (ap4_lt hb _ _) _ _) _ _) (by omega) (by omega) pl er i4) rfl gX5_feed_X4_append 1 (by decide +kernel) rfl ⟨rfl, rfl⟩ ⟨Nat.le_of_ble_eq_true rfl, Nat.le_of_ble_eq_true rfl⟩ (rest := []) (q0 := 1) rfl rfl hA [1, 2] [0] rfl rfl rfl (wr := [(x0, .inr (4, [.ref s0, .ref k0, .ref p0, .ref t0]))]) rfl rfl rfl (Nat.le_of_ble_eq_true rfl) dX5_feed_56 ⟨Nat.le_of_ble_eq_true rfl, Nat.le_of_ble_eq_true rfl⟩ rfl (g_kuv (fun w hr => ?_))
    subst hr
    refine g_ws (ws' := [(x0, .inr (4, [.ref s0, .ref k0, .ref p0, .ref t0])), (t0, .inr (3, [.int (nI ((((tl + 4) + 4) + 4) + 4)), .long lf, .ref tz, .int pl, .int er])), (tz, .inl (ty.1, 300, .inl (zN (ap4 (ap4 (ap4 (ap4 tb tl i1) (tl + 4) i2) ((tl + 4) + 4) i3) (((tl + 4) + 4) + 4) i4))))]) [0, 1, 2] rfl rfl rfl ?_
    refine g_aload_n C dX5_feed_59 0 rfl rfl ?_
    refine g_get C 0 rfl rfl 3 (by decide) (fun _ h => (List.mem_cons_of_mem _ (List.mem_append_left _ (List.mem_append_left _ (List.mem_append_right _ h))))) 3 rfl rfl rfl dX5_feed_60 ?_
    refine g_iload C dX5_feed_63 5 rfl ?_
    refine g_callUV C ⟨g_X0_ok, trivial⟩ (t_X4_append l D ty t0 tz ((((tl + 4) + 4) + 4) + 4) lf (ap4 (ap4 (ap4 (ap4 tb tl i1) (tl + 4) i2) ((tl + 4) + 4) i3) (((tl + 4) + 4) + 4) i4) (ap4_lt (ap4_lt (ap4_lt (ap4_lt hb _ _) _ _) _ _) _ _) (by omega) (by omega) pl er i5) rfl gX5_feed_X4_append 1 (by decide +kernel) rfl ⟨rfl, rfl⟩ ⟨Nat.le_of_ble_eq_true rfl, Nat.le_of_ble_eq_true rfl⟩ (rest := []) (q0 := 1) rfl rfl hA [1, 2] [0] rfl rfl rfl (wr := [(x0, .inr (4, [.ref s0, .ref k0, .ref p0, .ref t0]))]) rfl rfl rfl (Nat.le_of_ble_eq_true rfl) dX5_feed_65 ⟨Nat.le_of_ble_eq_true rfl, Nat.le_of_ble_eq_true rfl⟩ rfl (g_kuv (fun w hr => ?_))
    subst hr
    refine g_ws (ws' := [(x0, .inr (4, [.ref s0, .ref k0, .ref p0, .ref t0])), (t0, .inr (3, [.int (nI (((((tl + 4) + 4) + 4) + 4) + 4)), .long lf, .ref tz, .int pl, .int er])), (tz, .inl (ty.1, 300, .inl (zN (ap4 (ap4 (ap4 (ap4 (ap4 tb tl i1) (tl + 4) i2) ((tl + 4) + 4) i3) (((tl + 4) + 4) + 4) i4) ((((tl + 4) + 4) + 4) + 4) i5))))]) [0, 1, 2] rfl rfl rfl ?_
    refine g_aload_n C dX5_feed_68 0 rfl rfl ?_
    refine g_get C 0 rfl rfl 3 (by decide) (fun _ h => (List.mem_cons_of_mem _ (List.mem_append_left _ (List.mem_append_left _ (List.mem_append_right _ h))))) 3 rfl rfl rfl dX5_feed_69 ?_
    refine g_get C 1 rfl rfl 0 (by decide) (fun _ h => (List.mem_cons_of_mem _ (List.mem_append_left _ (List.mem_append_right _ h)))) 4 rfl rfl rfl dX5_feed_72 ?_
    refine hR _ _ _ _ _ _ dX5_feed_75 ?_ (by omega) (by omega)
    exact ⟨by omega, rfl, rfl⟩
  · skip
    exact hTh 2 13 16 93 1 2 _ _ (by decide) (by decide) (⟨rfl, by omega⟩) rfl rfl (fun _ h => (List.mem_cons_of_mem _ (List.mem_append_right _ h))) dX5_feed_16 dX5_feed_19 dX5_feed_20 dX5_feed_22 dX5_feed_25 rfl

abbrev rm_t_X5_trim : Room := ({ frames := 6, cells := 1, slots := 6, locals := 82 } : Room)
set_option maxHeartbeats 4000000 in
set_option maxRecDepth 100000 in
theorem t_X5_trim (l : Launch) (hfl : l.stackTraces = false) (D : va_G) (ty : g_T3) (x0 s0 k0 p0 : Nat) (t0 tz tl : Nat) (lf : Int64) (tb : Nat → Nat) (hb : ∀ i, tb i < 256) (htl : tl ≤ 300) (pl er : Int32) (o : Int32) : g_T l yX5_trim wsX5_trim rm_t_X5_trim D ty g_XT [.ref x0, .int o] [(x0, .inr (4, [.ref s0, .ref k0, .ref p0, .ref t0])), (t0, .inr (3, [.int (nI tl), .long lf, .ref tz, .int pl, .int er])), (tz, .inl (ty.1, 300, .inl (zN tb)))] 1 6 (g_ui (fun r w => ∃ k, k ≤ tl ∧ o = nI k ∧ r = nI k ∧ w = [(x0, .inr (4, [.ref s0, .ref k0, .ref p0, .ref t0])), (t0, .inr (3, [.int (nI k), .long lf, .ref tz, .int pl, .int er])), (tz, .inl (ty.1, 300, .inl (zN tb)))])) (fun E => (E = x_IA ∧ (o.toInt < 0 ∨ (tl : Int) < o.toInt))) := by
  refine g_ofTi hfl (cc := cX5_trim) (nL := 2) (by decide) rfl rfl (Nat.le_of_ble_eq_true rfl) ⟨Nat.le_of_ble_eq_true rfl, Nat.le_of_ble_eq_true rfl, Nat.le_of_ble_eq_true rfl, Nat.le_of_ble_eq_true rfl, Nat.le_of_ble_eq_true rfl, Nat.le_of_ble_eq_true rfl⟩ ?_
  intro p e s m args below meth c Q A C hA hX hin hTh hR
  refine g_lv (lv' := [(0, .ref x0), (1, .int o)]) [0, 1] rfl ?_
  refine g_iload_n C dX5_trim_0 1 rfl rfl ?_
  refine g_if_lt C dX5_trim_1 (tgt := 15) (by decide) (fun h1 => ?_) (fun h1 => ?_)
  · skip
    exact hTh 1 14 15 56 1 2 _ _ (by decide) (by decide) (⟨rfl, by omega⟩) rfl rfl (fun _ h => (List.mem_cons_of_mem _ (List.mem_append_right _ h))) dX5_trim_15 dX5_trim_18 dX5_trim_19 dX5_trim_21 dX5_trim_24 rfl
  · skip
    refine g_iload_n C dX5_trim_4 1 rfl rfl ?_
    refine g_aload_n C dX5_trim_5 0 rfl rfl ?_
    refine g_get C 0 rfl rfl 3 (by decide) (fun _ h => (List.mem_cons_of_mem _ (List.mem_append_left _ (List.mem_append_left _ (List.mem_append_right _ h))))) 3 rfl rfl rfl dX5_trim_6 ?_
    refine g_get C 1 rfl rfl 0 (by decide) (fun _ h => (List.mem_cons_of_mem _ (List.mem_append_left _ (List.mem_append_right _ h)))) 4 rfl rfl rfl dX5_trim_9 ?_
    refine g_icmp_le C dX5_trim_12 (tgt := 25) (by decide) (fun h12 => ?_) (fun h12 => ?_)
    · skip
      rw [nI_toInt (by omega)] at h12
      obtain ⟨k, hk, rfl⟩ := nI_of_int (x := o) (n := tl) (by omega) (by omega)
      refine g_aload_n C dX5_trim_25 0 rfl rfl ?_
      refine g_get C 0 rfl rfl 3 (by decide) (fun _ h => (List.mem_cons_of_mem _ (List.mem_append_left _ (List.mem_append_left _ (List.mem_append_right _ h))))) 3 rfl rfl rfl dX5_trim_26 ?_
      refine g_iload_n C dX5_trim_29 1 rfl rfl ?_
      refine g_put C 1 rfl rfl 0 (by decide) (fun _ h => (List.mem_cons_of_mem _ (List.mem_append_left _ (List.mem_append_right _ h)))) 4 rfl rfl tyX4 tyX4_ok nmX4 rfl rfl rfl rfl (Nat.le_of_ble_eq_true rfl) (ws' := [(x0, .inr (4, [.ref s0, .ref k0, .ref p0, .ref t0])), (t0, .inr (3, [.int (nI k), .long lf, .ref tz, .int pl, .int er])), (tz, .inl (ty.1, 300, .inl (zN tb)))]) rfl dX5_trim_30 ?_
      refine g_iload_n C dX5_trim_33 1 rfl rfl ?_
      refine hR _ _ _ _ _ _ dX5_trim_34 ?_ (by omega) (by omega)
      exact ⟨k, hk, rfl, rfl, rfl⟩
    · skip
      rw [nI_toInt (by omega)] at h12
      exact hTh 1 14 15 56 1 2 _ _ (by decide) (by decide) (⟨rfl, by omega⟩) rfl rfl (fun _ h => (List.mem_cons_of_mem _ (List.mem_append_right _ h))) dX5_trim_15 dX5_trim_18 dX5_trim_19 dX5_trim_21 dX5_trim_24 rfl

abbrev rm_t_X5_result : Room := ({ frames := 0, cells := 0, slots := 0, locals := 0 } : Room)
set_option maxHeartbeats 4000000 in
set_option maxRecDepth 100000 in
theorem t_X5_result (l : Launch) (D : va_G) (ty : g_T3) (x0 s0 k0 p0 : Nat) (t0 tz tl : Nat) (lf : Int64) (tb : Nat → Nat) (hb : ∀ i, tb i < 256) (htl : tl ≤ 300) (pl er : Int32) : g_P l yX5_result wsX5_result rm_t_X5_result D ty g_X0 [.ref x0] [(x0, .inr (4, [.ref s0, .ref k0, .ref p0, .ref t0])), (t0, .inr (3, [.int (nI tl), .long lf, .ref tz, .int pl, .int er]))] (g_pl (fun r => r = lf)) := by
  refine g_ofPl (cc := cX5_result) (nL := 1) (own := RX5) (by decide) rfl rfl g_X0_ok (Nat.le_of_ble_eq_true rfl) ?_
  intro p e s m args below meth c Q C hX hR
  refine g_lv (lv' := [(0, .ref x0)]) [0] rfl ?_
  refine g_aload_n C dX5_result_0 0 rfl rfl ?_
  refine g_get C 0 rfl rfl 3 (by decide) (fun _ h => (List.mem_cons_of_mem _ (List.mem_append_left _ (List.mem_append_right _ h)))) 1 rfl rfl rfl dX5_result_1 ?_
  refine g_get C 1 rfl rfl 1 (by decide) (fun _ h => (List.mem_cons_of_mem _ (List.mem_append_right _ h))) 2 rfl rfl rfl dX5_result_4 ?_
  exact hR _ _ _ _ dX5_result_7 (rfl)

abbrev rm_t_X5_digest : Room := ({ frames := 2, cells := 0, slots := 0, locals := 51 } : Room)
set_option maxHeartbeats 4000000 in
set_option maxRecDepth 100000 in
theorem t_X5_digest (l : Launch) (D : va_G) (ty : g_T3) (x0 : Nat) (s0 sp sa sc : Nat) (p2 : Nat → Nat) (al cs : Nat → Bool) (hp : (∀ k, k < 10 → 1 ≤ p2 k ∧ p2 k ≤ 5) ∧ p2 10 ≤ 5) (k0 kf ko ka kb kt kl kp : Nat) (es : List Ent) (fF : Nat → Int64) (oF aF bF tF sF pF : Nat → Int32) (hw : rowOk es fF oF aF bF sF) (st : Nat → Nat) (ht : ∀ j, j < 8 → tF j = nI (st j)) (hb : ∀ j, j ≤ 7 → st j < 2 ^ 31) (hco : coOk es st) (p0 py t0 tz tl : Nat) (pb : Nat → Nat) (nv : Nat) (hnv : nv ≤ 30) (htl : tl ≤ 300) (lf : Int64) (pl er : Int32) : g_P l yX5_digest wsX5_digest rm_t_X5_digest D ty g_XN [.ref x0] [(x0, .inr (4, [.ref s0, .ref k0, .ref p0, .ref t0])), (s0, .inr (2, [.ref sp, .ref sa, .ref sc])), (sp, .inl (ty.1, 11, .inl (zN p2))), (sa, .inl (ty.2.2, 10, .inl (zB al))), (sc, .inl (ty.2.2, 16, .inl (zB cs))), (k0, .inr (1, [.int (nI es.length), .ref kf, .ref ko, .ref ka, .ref kb, .ref kt, .ref kl, .ref kp])), (kf, .inl (ty.2.1, 2000, .inr (.inl fF))), (ko, .inl (ty.1, 2000, .inl oF)), (ka, .inl (ty.1, 2000, .inl aF)), (kb, .inl (ty.1, 2000, .inl bF)), (kt, .inl (ty.1, 8, .inl tF)), (p0, .inr (0, [.int (nI nv), .ref py])), (py, .inl (ty.1, 30, .inl (zN pb))), (t0, .inr (3, [.int (nI tl), .long lf, .ref tz, .int pl, .int er]))] (g_pl (fun r => r = dg1 (dg1 (dgP pb (dg1 (dgE es (dg1 (dgB cs (dg1 (dgQ p2 al 367 10) (lN (p2 10))) 16) (lN es.length)) es.length) (lN nv)) nv) (lN tl)) lf)) := by
  refine g_ofPl (cc := cX5_digest) (nL := 3) (own := RX5) (by decide) rfl rfl g_XN_ok (Nat.le_of_ble_eq_true rfl) ?_
  intro p e s m args below meth c Q C hX hR
  refine g_lv (lv' := [(0, .ref x0)]) [0] rfl ?_
  refine g_aload_n C dX5_digest_0 0 rfl rfl ?_
  refine g_get C 0 rfl rfl 0 (by decide) (fun _ h => (List.mem_cons_of_mem _ (List.mem_append_left _ (List.mem_append_left _ (List.mem_append_left _ (List.mem_append_left _ (List.mem_append_right _ h))))))) 1 rfl rfl rfl dX5_digest_1 ?_
  refine g_ldc2 C (v := (367)) 2 rfl dX5_digest_4 ?_
  refine g_callPV C hX (t_X3_addTo l D ty s0 sp sa sc p2 al cs hp (367)) rfl gX5_digest_X3_addTo 1 (by decide +kernel) rfl ⟨rfl, rfl⟩ ⟨Nat.le_of_ble_eq_true rfl, Nat.le_of_ble_eq_true rfl⟩ (rest := []) (q0 := 1) rfl rfl [1, 2, 3, 4] rfl (Nat.le_of_ble_eq_true rfl) dX5_digest_7 ⟨Nat.le_of_ble_eq_true rfl, Nat.le_of_ble_eq_true rfl⟩ rfl (g_kl (fun r hr => ?_))
  subst hr
  refine g_lstore_n C dX5_digest_10 rfl (by decide) (lv' := [(1, .long (dgB cs (dg1 (dgQ p2 al (367) 10) (lN (p2 10))) 16)), (0, .ref x0)]) rfl ?_
  refine g_aload_n C dX5_digest_11 1 rfl rfl ?_
  refine g_get C 0 rfl rfl 1 (by decide) (fun _ h => (List.mem_cons_of_mem _ (List.mem_append_left _ (List.mem_append_left _ (List.mem_append_left _ (List.mem_append_left _ (List.mem_append_right _ h))))))) 3 rfl rfl rfl dX5_digest_12 ?_
  refine g_lload_n C dX5_digest_15 0 rfl rfl ?_
  refine g_callPV C hX (t_X2_addTo l D ty k0 kf ko ka kb kt kl kp es fF oF aF bF tF sF pF hw st ht hb hco (dgB cs (dg1 (dgQ p2 al (367) 10) (lN (p2 10))) 16)) rfl gX5_digest_X2_addTo 1 (by decide +kernel) rfl ⟨rfl, rfl⟩ ⟨Nat.le_of_ble_eq_true rfl, Nat.le_of_ble_eq_true rfl⟩ (rest := []) (q0 := 5) rfl rfl [5, 6, 7, 8, 9, 10] rfl (Nat.le_of_ble_eq_true rfl) dX5_digest_16 ⟨Nat.le_of_ble_eq_true rfl, Nat.le_of_ble_eq_true rfl⟩ rfl (g_kl (fun r hr => ?_))
  subst hr
  refine g_lstore_n C dX5_digest_19 rfl (by decide) (lv' := [(1, .long (dgE es (dg1 (dgB cs (dg1 (dgQ p2 al (367) 10) (lN (p2 10))) 16) (lN es.length)) es.length)), (0, .ref x0)]) rfl ?_
  refine g_aload_n C dX5_digest_20 1 rfl rfl ?_
  refine g_get C 0 rfl rfl 2 (by decide) (fun _ h => (List.mem_cons_of_mem _ (List.mem_append_left _ (List.mem_append_left _ (List.mem_append_left _ (List.mem_append_left _ (List.mem_append_right _ h))))))) 4 rfl rfl rfl dX5_digest_21 ?_
  refine g_lload_n C dX5_digest_24 0 rfl rfl ?_
  refine g_callPV C hX (t_X1_addTo l D ty p0 py pb nv hnv (dgE es (dg1 (dgB cs (dg1 (dgQ p2 al (367) 10) (lN (p2 10))) 16) (lN es.length)) es.length)) rfl gX5_digest_X1_addTo 1 (by decide +kernel) rfl ⟨rfl, rfl⟩ ⟨Nat.le_of_ble_eq_true rfl, Nat.le_of_ble_eq_true rfl⟩ (rest := []) (q0 := 11) rfl rfl [11, 12] rfl (Nat.le_of_ble_eq_true rfl) dX5_digest_25 ⟨Nat.le_of_ble_eq_true rfl, Nat.le_of_ble_eq_true rfl⟩ rfl (g_kl (fun r hr => ?_))
  subst hr
  refine g_lstore_n C dX5_digest_28 rfl (by decide) (lv' := [(1, .long (dgP pb (dg1 (dgE es (dg1 (dgB cs (dg1 (dgQ p2 al (367) 10) (lN (p2 10))) 16) (lN es.length)) es.length) (lN nv)) nv)), (0, .ref x0)]) rfl ?_
  refine g_lload_n C dX5_digest_29 0 rfl rfl ?_
  refine g_aload_n C dX5_digest_30 1 rfl rfl ?_
  refine g_get C 0 rfl rfl 3 (by decide) (fun _ h => (List.mem_cons_of_mem _ (List.mem_append_left _ (List.mem_append_left _ (List.mem_append_left _ (List.mem_append_left _ (List.mem_append_right _ h))))))) 5 rfl rfl rfl dX5_digest_31 ?_
  refine g_get C 13 rfl rfl 0 (by decide) (fun _ h => (List.mem_cons_of_mem _ (List.mem_append_left _ (List.mem_append_left _ (List.mem_append_left _ (List.mem_append_right _ h)))))) 6 rfl rfl rfl dX5_digest_34 ?_
  refine g_i2l C dX5_digest_37 (v := (lN tl)) (nI_l (by omega)) ?_
  refine g_callPS C ⟨g_X0_ok, trivial⟩ (t_X5_added l D ty (dgP pb (dg1 (dgE es (dg1 (dgB cs (dg1 (dgQ p2 al (367) 10) (lN (p2 10))) 16) (lN es.length)) es.length) (lN nv)) nv) (lN tl)) rfl gX5_digest_X5_added 2 (by decide +kernel) rfl ⟨rfl, rfl⟩ ⟨Nat.le_of_ble_eq_true rfl, Nat.le_of_ble_eq_true rfl⟩ (rest := []) [] rfl (Nat.le_of_ble_eq_true rfl) dX5_digest_38 ⟨Nat.le_of_ble_eq_true rfl, Nat.le_of_ble_eq_true rfl⟩ rfl (g_kl (fun r hr => ?_))
  subst hr
  rw [show (dgP pb (dg1 (dgE es (dg1 (dgB cs (dg1 (dgQ p2 al (367) 10) (lN (p2 10))) 16) (lN es.length)) es.length) (lN nv)) nv) * 31 + (lN tl) = dg1 (dgP pb (dg1 (dgE es (dg1 (dgB cs (dg1 (dgQ p2 al (367) 10) (lN (p2 10))) 16) (lN es.length)) es.length) (lN nv)) nv) (lN tl) from rfl]
  refine g_lstore_n C dX5_digest_41 rfl (by decide) (lv' := [(1, .long (dg1 (dgP pb (dg1 (dgE es (dg1 (dgB cs (dg1 (dgQ p2 al (367) 10) (lN (p2 10))) 16) (lN es.length)) es.length) (lN nv)) nv) (lN tl))), (0, .ref x0)]) rfl ?_
  refine g_lload_n C dX5_digest_42 0 rfl rfl ?_
  refine g_aload_n C dX5_digest_43 1 rfl rfl ?_
  refine g_get C 0 rfl rfl 3 (by decide) (fun _ h => (List.mem_cons_of_mem _ (List.mem_append_left _ (List.mem_append_left _ (List.mem_append_left _ (List.mem_append_left _ (List.mem_append_right _ h))))))) 5 rfl rfl rfl dX5_digest_44 ?_
  refine g_get C 13 rfl rfl 1 (by decide) (fun _ h => (List.mem_cons_of_mem _ (List.mem_append_left _ (List.mem_append_left _ (List.mem_append_left _ (List.mem_append_right _ h)))))) 7 rfl rfl rfl dX5_digest_47 ?_
  refine g_callPS C ⟨g_X0_ok, trivial⟩ (t_X5_added l D ty (dg1 (dgP pb (dg1 (dgE es (dg1 (dgB cs (dg1 (dgQ p2 al (367) 10) (lN (p2 10))) 16) (lN es.length)) es.length) (lN nv)) nv) (lN tl)) lf) rfl gX5_digest_X5_added 2 (by decide +kernel) rfl ⟨rfl, rfl⟩ ⟨Nat.le_of_ble_eq_true rfl, Nat.le_of_ble_eq_true rfl⟩ (rest := []) [] rfl (Nat.le_of_ble_eq_true rfl) dX5_digest_50 ⟨Nat.le_of_ble_eq_true rfl, Nat.le_of_ble_eq_true rfl⟩ rfl (g_kl (fun r hr => ?_))
  subst hr
  rw [show (dg1 (dgP pb (dg1 (dgE es (dg1 (dgB cs (dg1 (dgQ p2 al (367) 10) (lN (p2 10))) 16) (lN es.length)) es.length) (lN nv)) nv) (lN tl)) * 31 + lf = dg1 (dg1 (dgP pb (dg1 (dgE es (dg1 (dgB cs (dg1 (dgQ p2 al (367) 10) (lN (p2 10))) 16) (lN es.length)) es.length) (lN nv)) nv) (lN tl)) lf from rfl]
  exact hR _ _ _ _ dX5_digest_53 (rfl)


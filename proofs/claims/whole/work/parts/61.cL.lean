abbrev rm_t_L_allow : Room := ({ frames := 7, cells := 1, slots := 6, locals := 104 } : Room)
set_option maxHeartbeats 4000000 in
set_option maxRecDepth 100000 in
theorem t_L_allow (l : Launch) (hfl : l.stackTraces = false) (D : va_G) (ty : g_T3) (x0 s0 k0 p0 t0 : Nat) (sp sa sc : Nat) (al : Nat → Bool) (o : Int32) (b : Bool)(oa : Nat) (fo : Nat → Int64) : g_U l yL_allow wsL_allow rm_t_L_allow D ty g_XT [.ref x0, .int o, .int (nI b.toNat), .ref oa] [(x0, .inr (4, [.ref s0, .ref k0, .ref p0, .ref t0])), (s0, .inr (2, [.ref sp, .ref sa, .ref sc])), (sa, .inl (ty.2.2, 10, .inl (zB al))), (oa, .inl (ty.2.1, 1, .inr (.inl fo)))] 1 6 (g_ui (fun r w => (∃ k, k ≤ 9 ∧ o = nI k ∧ r = nI 0 ∧ w = [(x0, .inr (4, [.ref s0, .ref k0, .ref p0, .ref t0])), (s0, .inr (2, [.ref sp, .ref sa, .ref sc])), (sa, .inl (ty.2.2, 10, .inl (zB (va_up al k b)))), (oa, .inl (ty.2.1, 1, .inr (.inl (vp_updL fo 0 (Int32.toInt64 (nI (ctB (va_up al k b) 10)))))))]) ∨ ((o.toInt < 0 ∨ 9 < o.toInt) ∧ r = nI 1 ∧ w = [(x0, .inr (4, [.ref s0, .ref k0, .ref p0, .ref t0])), (s0, .inr (2, [.ref sp, .ref sa, .ref sc])), (sa, .inl (ty.2.2, 10, .inl (zB al))), (oa, .inl (ty.2.1, 1, .inr (.inl fo)))]))) := by
  refine g_ofWi (hh := [(0, 10, 13, 13)]) (cc := cL_allow) (nL := 5) (own := RL) (by decide) rfl rfl g_XT_ok (Nat.le_of_ble_eq_true rfl) ?_
  intro p e s m args below meth c Q A C hA hX htab hR
  refine g_lv (lv' := [(0, .ref x0), (1, .int o), (2, .int (nI b.toNat)), (3, .ref oa)]) [0, 1, 2, 3] rfl ?_
  refine g_aload_n C dL_allow_0 3 rfl rfl ?_
  refine g_iconst C dL_allow_1 (v := (nI 0)) (by decide) ?_
  refine g_aload_n C dL_allow_2 0 rfl rfl ?_
  refine g_iload_n C dL_allow_3 1 rfl rfl ?_
  refine g_iload_n C dL_allow_4 2 rfl rfl ?_
  refine g_callTV C hX (t_X5_allow l hfl D ty x0 s0 k0 p0 t0 sp sa sc al o b) rfl gL_allow_X5_allow 2 (by decide +kernel) rfl ⟨rfl, rfl⟩ ⟨Nat.le_of_ble_eq_true rfl, Nat.le_of_ble_eq_true rfl⟩ (rest := [.int (nI 0), .ref oa]) (q0 := 0) rfl rfl hA [0, 1, 2] [3] rfl rfl rfl (wr := [(oa, .inl (ty.2.1, 1, .inr (.inl fo)))]) rfl rfl rfl (Nat.le_of_ble_eq_true rfl) dL_allow_5 ⟨Nat.le_of_ble_eq_true rfl, Nat.le_of_ble_eq_true rfl⟩ rfl ?_ (g_kui (fun r w hr => ?_))
  · intro E q9 hE
    obtain ⟨rfl, hq⟩ := hE
    · refine ⟨tableOf [], ⟨0, 10, 13, 13⟩, tableOf [], x_IO, htab, (fun z hz => nomatch hz), rfl, by decide, C.2.2.2.2.1 _ (List.mem_of_getElem? (i := 1) rfl), va_Nw.use rfl (hX.2.2.1 0 (by decide)), ?_⟩
      refine g_ws (ws' := [(x0, .inr (4, [.ref s0, .ref k0, .ref p0, .ref t0])), (s0, .inr (2, [.ref sp, .ref sa, .ref sc])), (sa, .inl (ty.2.2, 10, .inl (zB al))), (oa, .inl (ty.2.1, 1, .inr (.inl fo)))]) [1, 2, 3, 0] rfl rfl rfl ?_
      refine g_astore C dL_allow_13 (by decide) (lv' := [(4, .ref q9), (0, .ref x0), (1, .int o), (2, .int (nI b.toNat)), (3, .ref oa)]) rfl ?_
      refine g_iconst C dL_allow_15 (v := (nI 1)) (by decide) ?_
      refine hR _ _ _ _ _ _ dL_allow_16 ?_ (by omega) (by omega)
      exact Or.inr ⟨hq, rfl, rfl⟩
  · skip
    obtain ⟨k, hk, rfl, rfl, rfl⟩ := hr
    refine g_ws (ws' := [(x0, .inr (4, [.ref s0, .ref k0, .ref p0, .ref t0])), (s0, .inr (2, [.ref sp, .ref sa, .ref sc])), (sa, .inl (ty.2.2, 10, .inl (zB (va_up al k b)))), (oa, .inl (ty.2.1, 1, .inr (.inl fo)))]) [1, 2, 3, 0] rfl rfl rfl ?_
    refine g_i2l C dL_allow_8 (v := (Int32.toInt64 (nI (ctB (va_up al k b) 10)))) rfl ?_
    refine g_last C 3 rfl (by omega) (by omega) (f' := vp_updL fo 0 (Int32.toInt64 (nI (ctB (va_up al k b) 10)))) rfl (ws' := [(x0, .inr (4, [.ref s0, .ref k0, .ref p0, .ref t0])), (s0, .inr (2, [.ref sp, .ref sa, .ref sc])), (sa, .inl (ty.2.2, 10, .inl (zB (va_up al k b)))), (oa, .inl (ty.2.1, 1, .inr (.inl (vp_updL fo 0 (Int32.toInt64 (nI (ctB (va_up al k b) 10)))))))]) rfl dL_allow_9 ?_
    refine g_goto C dL_allow_10 (tgt := 17) (by decide) ?_
    refine g_iconst C dL_allow_17 (v := (nI 0)) (by decide) ?_
    refine hR _ _ _ _ _ _ dL_allow_18 ?_ (by omega) (by omega)
    exact Or.inl ⟨k, hk, rfl, rfl, rfl⟩

abbrev rm_t_L_setConstant : Room := ({ frames := 7, cells := 1, slots := 6, locals := 104 } : Room)
set_option maxHeartbeats 4000000 in
set_option maxRecDepth 100000 in
theorem t_L_setConstant (l : Launch) (hfl : l.stackTraces = false) (D : va_G) (ty : g_T3) (x0 s0 k0 p0 t0 : Nat) (sp sa sc : Nat) (cs : Nat → Bool) (o : Int32) (b : Bool)(oa : Nat) (fo : Nat → Int64) : g_U l yL_setConstant wsL_setConstant rm_t_L_setConstant D ty g_XT [.ref x0, .int o, .int (nI b.toNat), .ref oa] [(x0, .inr (4, [.ref s0, .ref k0, .ref p0, .ref t0])), (s0, .inr (2, [.ref sp, .ref sa, .ref sc])), (sc, .inl (ty.2.2, 16, .inl (zB cs))), (oa, .inl (ty.2.1, 1, .inr (.inl fo)))] 1 6 (g_ui (fun r w => (∃ k, k ≤ 15 ∧ o = nI k ∧ r = nI 0 ∧ w = [(x0, .inr (4, [.ref s0, .ref k0, .ref p0, .ref t0])), (s0, .inr (2, [.ref sp, .ref sa, .ref sc])), (sc, .inl (ty.2.2, 16, .inl (zB (va_up cs k b)))), (oa, .inl (ty.2.1, 1, .inr (.inl (vp_updL fo 0 (Int32.toInt64 (nI (ctB (va_up cs k b) 16)))))))]) ∨ ((o.toInt < 0 ∨ 15 < o.toInt) ∧ r = nI 1 ∧ w = [(x0, .inr (4, [.ref s0, .ref k0, .ref p0, .ref t0])), (s0, .inr (2, [.ref sp, .ref sa, .ref sc])), (sc, .inl (ty.2.2, 16, .inl (zB cs))), (oa, .inl (ty.2.1, 1, .inr (.inl fo)))]))) := by
  refine g_ofWi (hh := [(0, 10, 13, 19)]) (cc := cL_setConstant) (nL := 5) (own := RL) (by decide) rfl rfl g_XT_ok (Nat.le_of_ble_eq_true rfl) ?_
  intro p e s m args below meth c Q A C hA hX htab hR
  refine g_lv (lv' := [(0, .ref x0), (1, .int o), (2, .int (nI b.toNat)), (3, .ref oa)]) [0, 1, 2, 3] rfl ?_
  refine g_aload_n C dL_setConstant_0 3 rfl rfl ?_
  refine g_iconst C dL_setConstant_1 (v := (nI 0)) (by decide) ?_
  refine g_aload_n C dL_setConstant_2 0 rfl rfl ?_
  refine g_iload_n C dL_setConstant_3 1 rfl rfl ?_
  refine g_iload_n C dL_setConstant_4 2 rfl rfl ?_
  refine g_callTV C hX (t_X5_setConstant l hfl D ty x0 s0 k0 p0 t0 sp sa sc cs o b) rfl gL_setConstant_X5_setConstant 2 (by decide +kernel) rfl ⟨rfl, rfl⟩ ⟨Nat.le_of_ble_eq_true rfl, Nat.le_of_ble_eq_true rfl⟩ (rest := [.int (nI 0), .ref oa]) (q0 := 0) rfl rfl hA [0, 1, 2] [3] rfl rfl rfl (wr := [(oa, .inl (ty.2.1, 1, .inr (.inl fo)))]) rfl rfl rfl (Nat.le_of_ble_eq_true rfl) dL_setConstant_5 ⟨Nat.le_of_ble_eq_true rfl, Nat.le_of_ble_eq_true rfl⟩ rfl ?_ (g_kui (fun r w hr => ?_))
  · intro E q9 hE
    obtain ⟨rfl, hq⟩ := hE
    · refine ⟨tableOf [], ⟨0, 10, 13, 19⟩, tableOf [], x_IA, htab, (fun z hz => nomatch hz), rfl, by decide, C.2.2.2.2.1 _ (List.mem_of_getElem? (i := 1) rfl), va_Nw.use rfl (hX.2.2.1 1 (by decide)), ?_⟩
      refine g_ws (ws' := [(x0, .inr (4, [.ref s0, .ref k0, .ref p0, .ref t0])), (s0, .inr (2, [.ref sp, .ref sa, .ref sc])), (sc, .inl (ty.2.2, 16, .inl (zB cs))), (oa, .inl (ty.2.1, 1, .inr (.inl fo)))]) [1, 2, 3, 0] rfl rfl rfl ?_
      refine g_astore C dL_setConstant_13 (by decide) (lv' := [(4, .ref q9), (0, .ref x0), (1, .int o), (2, .int (nI b.toNat)), (3, .ref oa)]) rfl ?_
      refine g_iconst C dL_setConstant_15 (v := (nI 1)) (by decide) ?_
      refine hR _ _ _ _ _ _ dL_setConstant_16 ?_ (by omega) (by omega)
      exact Or.inr ⟨hq, rfl, rfl⟩
  · skip
    obtain ⟨k, hk, rfl, rfl, rfl⟩ := hr
    refine g_ws (ws' := [(x0, .inr (4, [.ref s0, .ref k0, .ref p0, .ref t0])), (s0, .inr (2, [.ref sp, .ref sa, .ref sc])), (sc, .inl (ty.2.2, 16, .inl (zB (va_up cs k b)))), (oa, .inl (ty.2.1, 1, .inr (.inl fo)))]) [1, 2, 3, 0] rfl rfl rfl ?_
    refine g_i2l C dL_setConstant_8 (v := (Int32.toInt64 (nI (ctB (va_up cs k b) 16)))) rfl ?_
    refine g_last C 3 rfl (by omega) (by omega) (f' := vp_updL fo 0 (Int32.toInt64 (nI (ctB (va_up cs k b) 16)))) rfl (ws' := [(x0, .inr (4, [.ref s0, .ref k0, .ref p0, .ref t0])), (s0, .inr (2, [.ref sp, .ref sa, .ref sc])), (sc, .inl (ty.2.2, 16, .inl (zB (va_up cs k b)))), (oa, .inl (ty.2.1, 1, .inr (.inl (vp_updL fo 0 (Int32.toInt64 (nI (ctB (va_up cs k b) 16)))))))]) rfl dL_setConstant_9 ?_
    refine g_goto C dL_setConstant_10 (tgt := 17) (by decide) ?_
    refine g_iconst C dL_setConstant_17 (v := (nI 0)) (by decide) ?_
    refine hR _ _ _ _ _ _ dL_setConstant_18 ?_ (by omega) (by omega)
    exact Or.inl ⟨k, hk, rfl, rfl, rfl⟩

abbrev rm_t_L_setPrice : Room := ({ frames := 7, cells := 1, slots := 6, locals := 106 } : Room)
set_option maxHeartbeats 4000000 in
set_option maxRecDepth 100000 in
theorem t_L_setPrice (l : Launch) (hfl : l.stackTraces = false) (D : va_G) (ty : g_T3) (x0 s0 k0 p0 t0 : Nat) (sp sa sc : Nat) (p2 : Nat → Nat) (o v : Int32)(oa : Nat) (fo : Nat → Int64) : g_U l yL_setPrice wsL_setPrice rm_t_L_setPrice D ty g_XT [.ref x0, .int o, .int v, .ref oa] [(x0, .inr (4, [.ref s0, .ref k0, .ref p0, .ref t0])), (s0, .inr (2, [.ref sp, .ref sa, .ref sc])), (sp, .inl (ty.1, 11, .inl (zN p2))), (oa, .inl (ty.2.1, 1, .inr (.inl fo)))] 1 6 (g_ui (fun r w => (∃ k u, k ≤ 10 ∧ o = nI k ∧ v = nI u ∧ (if k = 10 then 0 else 1) ≤ u ∧ u ≤ 5 ∧ r = nI 0 ∧ w = [(x0, .inr (4, [.ref s0, .ref k0, .ref p0, .ref t0])), (s0, .inr (2, [.ref sp, .ref sa, .ref sc])), (sp, .inl (ty.1, 11, .inl (zN (va_up p2 k u)))), (oa, .inl (ty.2.1, 1, .inr (.inl (vp_updL fo 0 (Int32.toInt64 (nI (p2 k)))))))]) ∨ ((o.toInt < 0 ∨ 10 < o.toInt) ∧ r = nI 1 ∧ w = [(x0, .inr (4, [.ref s0, .ref k0, .ref p0, .ref t0])), (s0, .inr (2, [.ref sp, .ref sa, .ref sc])), (sp, .inl (ty.1, 11, .inl (zN p2))), (oa, .inl (ty.2.1, 1, .inr (.inl fo)))]) ∨ ((∃ k, k ≤ 10 ∧ o = nI k ∧ (v.toInt < (((if k = 10 then 0 else 1) : Nat) : Int) ∨ 5 < v.toInt)) ∧ r = nI 2 ∧ w = [(x0, .inr (4, [.ref s0, .ref k0, .ref p0, .ref t0])), (s0, .inr (2, [.ref sp, .ref sa, .ref sc])), (sp, .inl (ty.1, 11, .inl (zN p2))), (oa, .inl (ty.2.1, 1, .inr (.inl fo)))]))) := by
  refine g_ofWi (hh := [(0, 10, 13, 13), (0, 10, 17, 19)]) (cc := cL_setPrice) (nL := 5) (own := RL) (by decide) rfl rfl g_XT_ok (Nat.le_of_ble_eq_true rfl) ?_
  intro p e s m args below meth c Q A C hA hX htab hR
  refine g_lv (lv' := [(0, .ref x0), (1, .int o), (2, .int v), (3, .ref oa)]) [0, 1, 2, 3] rfl ?_
  refine g_aload_n C dL_setPrice_0 3 rfl rfl ?_
  refine g_iconst C dL_setPrice_1 (v := (nI 0)) (by decide) ?_
  refine g_aload_n C dL_setPrice_2 0 rfl rfl ?_
  refine g_iload_n C dL_setPrice_3 1 rfl rfl ?_
  refine g_iload_n C dL_setPrice_4 2 rfl rfl ?_
  refine g_callTV C hX (t_X5_setPrice l hfl D ty x0 s0 k0 p0 t0 sp sa sc p2 o v) rfl gL_setPrice_X5_setPrice 2 (by decide +kernel) rfl ⟨rfl, rfl⟩ ⟨Nat.le_of_ble_eq_true rfl, Nat.le_of_ble_eq_true rfl⟩ (rest := [.int (nI 0), .ref oa]) (q0 := 0) rfl rfl hA [0, 1, 2] [3] rfl rfl rfl (wr := [(oa, .inl (ty.2.1, 1, .inr (.inl fo)))]) rfl rfl rfl (Nat.le_of_ble_eq_true rfl) dL_setPrice_5 ⟨Nat.le_of_ble_eq_true rfl, Nat.le_of_ble_eq_true rfl⟩ rfl ?_ (g_kui (fun r w hr => ?_))
  · intro E q9 hE
    rcases hE with ⟨rfl, hq⟩ | ⟨rfl, hq⟩
    · refine ⟨tableOf [], ⟨0, 10, 13, 13⟩, tableOf [(0, 10, 17, 19)], x_IO, htab, (fun z hz => nomatch hz), rfl, by decide, C.2.2.2.2.1 _ (List.mem_of_getElem? (i := 1) rfl), va_Nw.use rfl (hX.2.2.1 0 (by decide)), ?_⟩
      refine g_ws (ws' := [(x0, .inr (4, [.ref s0, .ref k0, .ref p0, .ref t0])), (s0, .inr (2, [.ref sp, .ref sa, .ref sc])), (sp, .inl (ty.1, 11, .inl (zN p2))), (oa, .inl (ty.2.1, 1, .inr (.inl fo)))]) [1, 2, 3, 0] rfl rfl rfl ?_
      refine g_astore C dL_setPrice_13 (by decide) (lv' := [(4, .ref q9), (0, .ref x0), (1, .int o), (2, .int v), (3, .ref oa)]) rfl ?_
      refine g_iconst C dL_setPrice_15 (v := (nI 1)) (by decide) ?_
      refine hR _ _ _ _ _ _ dL_setPrice_16 ?_ (by omega) (by omega)
      exact Or.inr (Or.inl ⟨hq, rfl, rfl⟩)
    · refine ⟨tableOf [(0, 10, 13, 13)], ⟨0, 10, 17, 19⟩, tableOf [], x_IA, htab, (fun z hz => by rcases List.mem_singleton.mp hz with rfl; exact Or.inr ⟨by decide, x_IO, C.2.2.2.2.1 _ (List.mem_of_getElem? (i := 1) rfl), hX.2.2.2.2.2.2.1⟩), rfl, by decide, C.2.2.2.2.1 _ (List.mem_of_getElem? (i := 2) rfl), va_Nw.use rfl (hX.2.2.1 1 (by decide)), ?_⟩
      refine g_ws (ws' := [(x0, .inr (4, [.ref s0, .ref k0, .ref p0, .ref t0])), (s0, .inr (2, [.ref sp, .ref sa, .ref sc])), (sp, .inl (ty.1, 11, .inl (zN p2))), (oa, .inl (ty.2.1, 1, .inr (.inl fo)))]) [1, 2, 3, 0] rfl rfl rfl ?_
      refine g_astore C dL_setPrice_17 (by decide) (lv' := [(4, .ref q9), (0, .ref x0), (1, .int o), (2, .int v), (3, .ref oa)]) rfl ?_
      refine g_iconst C dL_setPrice_19 (v := (nI 2)) (by decide) ?_
      refine hR _ _ _ _ _ _ dL_setPrice_20 ?_ (by omega) (by omega)
      exact Or.inr (Or.inr ⟨hq, rfl, rfl⟩)
  · skip
    obtain ⟨k, u, hk, rfl, rfl, hlo, hu, rfl, rfl⟩ := hr
    refine g_ws (ws' := [(x0, .inr (4, [.ref s0, .ref k0, .ref p0, .ref t0])), (s0, .inr (2, [.ref sp, .ref sa, .ref sc])), (sp, .inl (ty.1, 11, .inl (zN (va_up p2 k u)))), (oa, .inl (ty.2.1, 1, .inr (.inl fo)))]) [1, 2, 3, 0] rfl rfl rfl ?_
    refine g_i2l C dL_setPrice_8 (v := (Int32.toInt64 (nI (p2 k)))) rfl ?_
    refine g_last C 3 rfl (by omega) (by omega) (f' := vp_updL fo 0 (Int32.toInt64 (nI (p2 k)))) rfl (ws' := [(x0, .inr (4, [.ref s0, .ref k0, .ref p0, .ref t0])), (s0, .inr (2, [.ref sp, .ref sa, .ref sc])), (sp, .inl (ty.1, 11, .inl (zN (va_up p2 k u)))), (oa, .inl (ty.2.1, 1, .inr (.inl (vp_updL fo 0 (Int32.toInt64 (nI (p2 k)))))))]) rfl dL_setPrice_9 ?_
    refine g_goto C dL_setPrice_10 (tgt := 21) (by decide) ?_
    refine g_iconst C dL_setPrice_21 (v := (nI 0)) (by decide) ?_
    refine hR _ _ _ _ _ _ dL_setPrice_22 ?_ (by omega) (by omega)
    exact Or.inl ⟨k, u, hk, rfl, rfl, hlo, hu, rfl, rfl⟩

abbrev rm_t_L_value : Room := ({ frames := 7, cells := 1, slots := 6, locals := 105 } : Room)
set_option maxHeartbeats 4000000 in
set_option maxRecDepth 100000 in
theorem t_L_value (l : Launch) (hfl : l.stackTraces = false) (D : va_G) (ty : g_T3) (s0 k0 p0 t0 : Nat) (x0 : Nat) (f : Int64) (o : Int32)(oa : Nat) (fo : Nat → Int64) : g_U l yL_value wsL_value rm_t_L_value D ty g_XT [.ref x0, .long f, .int o, .ref oa] [(x0, .inr (4, [.ref s0, .ref k0, .ref p0, .ref t0])), (oa, .inl (ty.2.1, 1, .inr (.inl fo)))] 1 6 (g_ui (fun r w => (∃ k, k ≤ 15 ∧ o = nI k ∧ r = nI 0 ∧ w = [(x0, .inr (4, [.ref s0, .ref k0, .ref p0, .ref t0])), (oa, .inl (ty.2.1, 1, .inr (.inl (vp_updL fo 0 (Int32.toInt64 (nI (nib f k)))))))]) ∨ ((o.toInt < 0 ∨ 15 < o.toInt) ∧ r = nI 1 ∧ w = [(x0, .inr (4, [.ref s0, .ref k0, .ref p0, .ref t0])), (oa, .inl (ty.2.1, 1, .inr (.inl fo)))]))) := by
  refine g_ofWi (hh := [(0, 11, 14, 19)]) (cc := cL_value) (nL := 6) (own := RL) (by decide) rfl rfl g_XT_ok (Nat.le_of_ble_eq_true rfl) ?_
  intro p e s m args below meth c Q A C hA hX htab hR
  refine g_lv (lv' := [(0, .ref x0), (1, .long f), (3, .int o), (4, .ref oa)]) [0, 1, 2, 3] rfl ?_
  refine g_aload C dL_value_0 3 rfl ?_
  refine g_iconst C dL_value_2 (v := (nI 0)) (by decide) ?_
  refine g_aload_n C dL_value_3 0 rfl rfl ?_
  refine g_lload_n C dL_value_4 1 rfl rfl ?_
  refine g_iload_n C dL_value_5 2 rfl rfl ?_
  refine g_callTV C hX (t_X5_value l hfl D ty x0 f o) rfl gL_value_X5_value 2 (by decide +kernel) rfl ⟨rfl, rfl⟩ ⟨Nat.le_of_ble_eq_true rfl, Nat.le_of_ble_eq_true rfl⟩ (rest := [.int (nI 0), .ref oa]) (q0 := 0) rfl rfl hA [] [0, 1] rfl rfl rfl (wr := [(x0, .inr (4, [.ref s0, .ref k0, .ref p0, .ref t0])), (oa, .inl (ty.2.1, 1, .inr (.inl fo)))]) rfl rfl rfl (Nat.le_of_ble_eq_true rfl) dL_value_6 ⟨Nat.le_of_ble_eq_true rfl, Nat.le_of_ble_eq_true rfl⟩ rfl ?_ (g_kui (fun r w hr => ?_))
  · intro E q9 hE
    obtain ⟨rfl, hq⟩ := hE
    · refine ⟨tableOf [], ⟨0, 11, 14, 19⟩, tableOf [], x_IA, htab, (fun z hz => nomatch hz), rfl, by decide, C.2.2.2.2.1 _ (List.mem_of_getElem? (i := 1) rfl), va_Nw.use rfl (hX.2.2.1 1 (by decide)), ?_⟩
      refine g_ws (ws' := [(x0, .inr (4, [.ref s0, .ref k0, .ref p0, .ref t0])), (oa, .inl (ty.2.1, 1, .inr (.inl fo)))]) [0, 1] rfl rfl rfl ?_
      refine g_astore C dL_value_14 (by decide) (lv' := [(5, .ref q9), (0, .ref x0), (1, .long f), (3, .int o), (4, .ref oa)]) rfl ?_
      refine g_iconst C dL_value_16 (v := (nI 1)) (by decide) ?_
      refine hR _ _ _ _ _ _ dL_value_17 ?_ (by omega) (by omega)
      exact Or.inr ⟨hq, rfl, rfl⟩
  · skip
    obtain ⟨k, hk, rfl, rfl, rfl⟩ := hr
    refine g_ws (ws' := [(x0, .inr (4, [.ref s0, .ref k0, .ref p0, .ref t0])), (oa, .inl (ty.2.1, 1, .inr (.inl fo)))]) [0, 1] rfl rfl rfl ?_
    refine g_i2l C dL_value_9 (v := (Int32.toInt64 (nI (nib f k)))) rfl ?_
    refine g_last C 1 rfl (by omega) (by omega) (f' := vp_updL fo 0 (Int32.toInt64 (nI (nib f k)))) rfl (ws' := [(x0, .inr (4, [.ref s0, .ref k0, .ref p0, .ref t0])), (oa, .inl (ty.2.1, 1, .inr (.inl (vp_updL fo 0 (Int32.toInt64 (nI (nib f k)))))))]) rfl dL_value_10 ?_
    refine g_goto C dL_value_11 (tgt := 18) (by decide) ?_
    refine g_iconst C dL_value_18 (v := (nI 0)) (by decide) ?_
    refine hR _ _ _ _ _ _ dL_value_19 ?_ (by omega) (by omega)
    exact Or.inl ⟨k, hk, rfl, rfl, rfl⟩

abbrev rm_t_L_apply : Room := ({ frames := 7, cells := 1, slots := 6, locals := 107 } : Room)
set_option maxHeartbeats 4000000 in
set_option maxRecDepth 100000 in
theorem t_L_apply (l : Launch) (hfl : l.stackTraces = false) (D : va_G) (ty : g_T3) (s0 k0 p0 t0 : Nat) (x0 : Nat) (o : Int32) (f g : Int64)(oa : Nat) (fo : Nat → Int64) : g_U l yL_apply wsL_apply rm_t_L_apply D ty g_XT [.ref x0, .int o, .long f, .long g, .ref oa] [(x0, .inr (4, [.ref s0, .ref k0, .ref p0, .ref t0])), (oa, .inl (ty.2.1, 1, .inr (.inl fo)))] 1 6 (g_ui (fun r w => (∃ k, k ≤ 9 ∧ o = nI k ∧ r = nI 0 ∧ w = [(x0, .inr (4, [.ref s0, .ref k0, .ref p0, .ref t0])), (oa, .inl (ty.2.1, 1, .inr (.inl (vp_updL fo 0 (maF k f g)))))]) ∨ ((o.toInt < 0 ∨ 9 < o.toInt) ∧ r = nI 1 ∧ w = [(x0, .inr (4, [.ref s0, .ref k0, .ref p0, .ref t0])), (oa, .inl (ty.2.1, 1, .inr (.inl fo)))]))) := by
  refine g_ofWi (hh := [(0, 12, 15, 13)]) (cc := cL_apply) (nL := 8) (own := RL) (by decide) rfl rfl g_XT_ok (Nat.le_of_ble_eq_true rfl) ?_
  intro p e s m args below meth c Q A C hA hX htab hR
  refine g_lv (lv' := [(0, .ref x0), (1, .int o), (2, .long f), (4, .long g), (6, .ref oa)]) [0, 1, 2, 3, 4] rfl ?_
  refine g_aload C dL_apply_0 4 rfl ?_
  refine g_iconst C dL_apply_2 (v := (nI 0)) (by decide) ?_
  refine g_aload_n C dL_apply_3 0 rfl rfl ?_
  refine g_iload_n C dL_apply_4 1 rfl rfl ?_
  refine g_lload_n C dL_apply_5 2 rfl rfl ?_
  refine g_lload C dL_apply_6 3 rfl ?_
  refine g_callTV C hX (t_X5_apply l hfl D ty x0 o f g) rfl gL_apply_X5_apply 3 (by decide +kernel) rfl ⟨rfl, rfl⟩ ⟨Nat.le_of_ble_eq_true rfl, Nat.le_of_ble_eq_true rfl⟩ (rest := [.int (nI 0), .ref oa]) (q0 := 0) rfl rfl hA [] [0, 1] rfl rfl rfl (wr := [(x0, .inr (4, [.ref s0, .ref k0, .ref p0, .ref t0])), (oa, .inl (ty.2.1, 1, .inr (.inl fo)))]) rfl rfl rfl (Nat.le_of_ble_eq_true rfl) dL_apply_8 ⟨Nat.le_of_ble_eq_true rfl, Nat.le_of_ble_eq_true rfl⟩ rfl ?_ (g_kul (fun r w hr => ?_))
  · intro E q9 hE
    obtain ⟨rfl, hq⟩ := hE
    · refine ⟨tableOf [], ⟨0, 12, 15, 13⟩, tableOf [], x_IO, htab, (fun z hz => nomatch hz), rfl, by decide, C.2.2.2.2.1 _ (List.mem_of_getElem? (i := 1) rfl), va_Nw.use rfl (hX.2.2.1 0 (by decide)), ?_⟩
      refine g_ws (ws' := [(x0, .inr (4, [.ref s0, .ref k0, .ref p0, .ref t0])), (oa, .inl (ty.2.1, 1, .inr (.inl fo)))]) [0, 1] rfl rfl rfl ?_
      refine g_astore C dL_apply_15 (by decide) (lv' := [(7, .ref q9), (0, .ref x0), (1, .int o), (2, .long f), (4, .long g), (6, .ref oa)]) rfl ?_
      refine g_iconst C dL_apply_17 (v := (nI 1)) (by decide) ?_
      refine hR _ _ _ _ _ _ dL_apply_18 ?_ (by omega) (by omega)
      exact Or.inr ⟨hq, rfl, rfl⟩
  · skip
    obtain ⟨k, hk, rfl, rfl, rfl⟩ := hr
    refine g_ws (ws' := [(x0, .inr (4, [.ref s0, .ref k0, .ref p0, .ref t0])), (oa, .inl (ty.2.1, 1, .inr (.inl fo)))]) [0, 1] rfl rfl rfl ?_
    refine g_last C 1 rfl (by omega) (by omega) (f' := vp_updL fo 0 (maF k f g)) rfl (ws' := [(x0, .inr (4, [.ref s0, .ref k0, .ref p0, .ref t0])), (oa, .inl (ty.2.1, 1, .inr (.inl (vp_updL fo 0 (maF k f g)))))]) rfl dL_apply_11 ?_
    refine g_goto C dL_apply_12 (tgt := 19) (by decide) ?_
    refine g_iconst C dL_apply_19 (v := (nI 0)) (by decide) ?_
    refine hR _ _ _ _ _ _ dL_apply_20 ?_ (by omega) (by omega)
    exact Or.inl ⟨k, hk, rfl, rfl, rfl⟩

abbrev rm_t_L_inverse : Room := ({ frames := 7, cells := 1, slots := 6, locals := 104 } : Room)
set_option maxHeartbeats 4000000 in
set_option maxRecDepth 100000 in
theorem t_L_inverse (l : Launch) (hfl : l.stackTraces = false) (D : va_G) (ty : g_T3) (s0 k0 p0 t0 : Nat) (x0 : Nat) (f : Int64)(oa : Nat) (fo : Nat → Int64) : g_U l yL_inverse wsL_inverse rm_t_L_inverse D ty g_XT [.ref x0, .long f, .ref oa] [(x0, .inr (4, [.ref s0, .ref k0, .ref p0, .ref t0])), (oa, .inl (ty.2.1, 1, .inr (.inl fo)))] 1 6 (g_ui (fun r w => (16 ≤ (ibc (nI (imF f 65535))).toInt ∧ r = nI 0 ∧ w = [(x0, .inr (4, [.ref s0, .ref k0, .ref p0, .ref t0])), (oa, .inl (ty.2.1, 1, .inr (.inl (vp_updL fo 0 (ivN f 16)))))]) ∨ ((ibc (nI (imF f 65535))).toInt < 16 ∧ r = nI 1 ∧ w = [(x0, .inr (4, [.ref s0, .ref k0, .ref p0, .ref t0])), (oa, .inl (ty.2.1, 1, .inr (.inl fo)))]))) := by
  refine g_ofWi (hh := [(0, 8, 11, 36)]) (cc := cL_inverse) (nL := 5) (own := RL) (by decide) rfl rfl g_XT_ok (Nat.le_of_ble_eq_true rfl) ?_
  intro p e s m args below meth c Q A C hA hX htab hR
  refine g_lv (lv' := [(0, .ref x0), (1, .long f), (3, .ref oa)]) [0, 1, 2] rfl ?_
  refine g_aload_n C dL_inverse_0 2 rfl rfl ?_
  refine g_iconst C dL_inverse_1 (v := (nI 0)) (by decide) ?_
  refine g_aload_n C dL_inverse_2 0 rfl rfl ?_
  refine g_lload_n C dL_inverse_3 1 rfl rfl ?_
  refine g_callTV C hX (t_X5_inverse l hfl D ty x0 f) rfl gL_inverse_X5_inverse 1 (by decide +kernel) rfl ⟨rfl, rfl⟩ ⟨Nat.le_of_ble_eq_true rfl, Nat.le_of_ble_eq_true rfl⟩ (rest := [.int (nI 0), .ref oa]) (q0 := 0) rfl rfl hA [] [0, 1] rfl rfl rfl (wr := [(x0, .inr (4, [.ref s0, .ref k0, .ref p0, .ref t0])), (oa, .inl (ty.2.1, 1, .inr (.inl fo)))]) rfl rfl rfl (Nat.le_of_ble_eq_true rfl) dL_inverse_4 ⟨Nat.le_of_ble_eq_true rfl, Nat.le_of_ble_eq_true rfl⟩ rfl ?_ (g_kul (fun r w hr => ?_))
  · intro E q9 hE
    obtain ⟨rfl, hq⟩ := hE
    · refine ⟨tableOf [], ⟨0, 8, 11, 36⟩, tableOf [], x_IS, htab, (fun z hz => nomatch hz), rfl, by decide, C.2.2.2.2.1 _ (List.mem_of_getElem? (i := 1) rfl), va_Nw.use rfl (hX.2.2.1 2 (by decide)), ?_⟩
      refine g_ws (ws' := [(x0, .inr (4, [.ref s0, .ref k0, .ref p0, .ref t0])), (oa, .inl (ty.2.1, 1, .inr (.inl fo)))]) [0, 1] rfl rfl rfl ?_
      refine g_astore C dL_inverse_11 (by decide) (lv' := [(4, .ref q9), (0, .ref x0), (1, .long f), (3, .ref oa)]) rfl ?_
      refine g_iconst C dL_inverse_13 (v := (nI 1)) (by decide) ?_
      refine hR _ _ _ _ _ _ dL_inverse_14 ?_ (by omega) (by omega)
      exact Or.inr ⟨hq, rfl, rfl⟩
  · skip
    obtain ⟨h16, rfl, rfl⟩ := hr
    refine g_ws (ws' := [(x0, .inr (4, [.ref s0, .ref k0, .ref p0, .ref t0])), (oa, .inl (ty.2.1, 1, .inr (.inl fo)))]) [0, 1] rfl rfl rfl ?_
    refine g_last C 1 rfl (by omega) (by omega) (f' := vp_updL fo 0 (ivN f 16)) rfl (ws' := [(x0, .inr (4, [.ref s0, .ref k0, .ref p0, .ref t0])), (oa, .inl (ty.2.1, 1, .inr (.inl (vp_updL fo 0 (ivN f 16)))))]) rfl dL_inverse_7 ?_
    refine g_goto C dL_inverse_8 (tgt := 15) (by decide) ?_
    refine g_iconst C dL_inverse_15 (v := (nI 0)) (by decide) ?_
    refine hR _ _ _ _ _ _ dL_inverse_16 ?_ (by omega) (by omega)
    exact Or.inl ⟨h16, rfl, rfl⟩

abbrev rm_t_L_measure : Room := ({ frames := 7, cells := 1, slots := 6, locals := 116 } : Room)
set_option maxHeartbeats 4000000 in
set_option maxRecDepth 100000 in
theorem t_L_measure (l : Launch) (hfl : l.stackTraces = false) (D : va_G) (ty : g_T3) (s0 k0 p0 t0 : Nat) (x0 : Nat) (f : Int64) (o : Int32)(oa : Nat) (fo : Nat → Int64) : g_U l yL_measure wsL_measure rm_t_L_measure D ty g_XT [.ref x0, .long f, .int o, .ref oa] [(x0, .inr (4, [.ref s0, .ref k0, .ref p0, .ref t0])), (oa, .inl (ty.2.1, 1, .inr (.inl fo)))] 1 6 (g_ui (fun r w => (∃ k rv, k ≤ 4 ∧ o = nI k ∧ msR f k rv ∧ r = nI 0 ∧ w = [(x0, .inr (4, [.ref s0, .ref k0, .ref p0, .ref t0])), (oa, .inl (ty.2.1, 1, .inr (.inl (vp_updL fo 0 (Int32.toInt64 (rv))))))]) ∨ ((o.toInt < 0 ∨ 4 < o.toInt) ∧ r = nI 1 ∧ w = [(x0, .inr (4, [.ref s0, .ref k0, .ref p0, .ref t0])), (oa, .inl (ty.2.1, 1, .inr (.inl fo)))]))) := by
  refine g_ofWi (hh := [(0, 11, 14, 13)]) (cc := cL_measure) (nL := 6) (own := RL) (by decide) rfl rfl g_XT_ok (Nat.le_of_ble_eq_true rfl) ?_
  intro p e s m args below meth c Q A C hA hX htab hR
  refine g_lv (lv' := [(0, .ref x0), (1, .long f), (3, .int o), (4, .ref oa)]) [0, 1, 2, 3] rfl ?_
  refine g_aload C dL_measure_0 3 rfl ?_
  refine g_iconst C dL_measure_2 (v := (nI 0)) (by decide) ?_
  refine g_aload_n C dL_measure_3 0 rfl rfl ?_
  refine g_lload_n C dL_measure_4 1 rfl rfl ?_
  refine g_iload_n C dL_measure_5 2 rfl rfl ?_
  refine g_callTV C hX (t_X5_measure l hfl D ty x0 f o) rfl gL_measure_X5_measure 2 (by decide +kernel) rfl ⟨rfl, rfl⟩ ⟨Nat.le_of_ble_eq_true rfl, Nat.le_of_ble_eq_true rfl⟩ (rest := [.int (nI 0), .ref oa]) (q0 := 0) rfl rfl hA [] [0, 1] rfl rfl rfl (wr := [(x0, .inr (4, [.ref s0, .ref k0, .ref p0, .ref t0])), (oa, .inl (ty.2.1, 1, .inr (.inl fo)))]) rfl rfl rfl (Nat.le_of_ble_eq_true rfl) dL_measure_6 ⟨Nat.le_of_ble_eq_true rfl, Nat.le_of_ble_eq_true rfl⟩ rfl ?_ (g_kui (fun rv w hr => ?_))
  · intro E q9 hE
    obtain ⟨rfl, hq⟩ := hE
    · refine ⟨tableOf [], ⟨0, 11, 14, 13⟩, tableOf [], x_IO, htab, (fun z hz => nomatch hz), rfl, by decide, C.2.2.2.2.1 _ (List.mem_of_getElem? (i := 1) rfl), va_Nw.use rfl (hX.2.2.1 0 (by decide)), ?_⟩
      refine g_ws (ws' := [(x0, .inr (4, [.ref s0, .ref k0, .ref p0, .ref t0])), (oa, .inl (ty.2.1, 1, .inr (.inl fo)))]) [0, 1] rfl rfl rfl ?_
      refine g_astore C dL_measure_14 (by decide) (lv' := [(5, .ref q9), (0, .ref x0), (1, .long f), (3, .int o), (4, .ref oa)]) rfl ?_
      refine g_iconst C dL_measure_16 (v := (nI 1)) (by decide) ?_
      refine hR _ _ _ _ _ _ dL_measure_17 ?_ (by omega) (by omega)
      exact Or.inr ⟨hq, rfl, rfl⟩
  · skip
    obtain ⟨k, hk, rfl, hv, rfl⟩ := hr
    refine g_ws (ws' := [(x0, .inr (4, [.ref s0, .ref k0, .ref p0, .ref t0])), (oa, .inl (ty.2.1, 1, .inr (.inl fo)))]) [0, 1] rfl rfl rfl ?_
    refine g_i2l C dL_measure_9 (v := (Int32.toInt64 rv)) rfl ?_
    refine g_last C 1 rfl (by omega) (by omega) (f' := vp_updL fo 0 (Int32.toInt64 rv)) rfl (ws' := [(x0, .inr (4, [.ref s0, .ref k0, .ref p0, .ref t0])), (oa, .inl (ty.2.1, 1, .inr (.inl (vp_updL fo 0 (Int32.toInt64 rv)))))]) rfl dL_measure_10 ?_
    refine g_goto C dL_measure_11 (tgt := 18) (by decide) ?_
    refine g_iconst C dL_measure_18 (v := (nI 0)) (by decide) ?_
    refine hR _ _ _ _ _ _ dL_measure_19 ?_ (by omega) (by omega)
    exact Or.inl ⟨k, rv, hk, rfl, hv, rfl, rfl⟩

abbrev rm_t_L_is : Room := ({ frames := 7, cells := 1, slots := 6, locals := 105 } : Room)
set_option maxHeartbeats 4000000 in
set_option maxRecDepth 100000 in
theorem t_L_is (l : Launch) (hfl : l.stackTraces = false) (D : va_G) (ty : g_T3) (s0 k0 p0 t0 : Nat) (x0 : Nat) (f : Int64) (o : Int32)(oa : Nat) (fo : Nat → Int64) : g_U l yL_is wsL_is rm_t_L_is D ty g_XT [.ref x0, .long f, .int o, .ref oa] [(x0, .inr (4, [.ref s0, .ref k0, .ref p0, .ref t0])), (oa, .inl (ty.2.1, 1, .inr (.inl fo)))] 1 6 (g_ui (fun r w => (∃ k, k ≤ 3 ∧ o = nI k ∧ r = nI 0 ∧ w = [(x0, .inr (4, [.ref s0, .ref k0, .ref p0, .ref t0])), (oa, .inl (ty.2.1, 1, .inr (.inl (vp_updL fo 0 (lN (isR f k).toNat)))))]) ∨ ((o.toInt < 0 ∨ 3 < o.toInt) ∧ r = nI 1 ∧ w = [(x0, .inr (4, [.ref s0, .ref k0, .ref p0, .ref t0])), (oa, .inl (ty.2.1, 1, .inr (.inl fo)))]))) := by
  refine g_ofWi (hh := [(0, 18, 21, 13)]) (cc := cL_is) (nL := 6) (own := RL) (by decide) rfl rfl g_XT_ok (Nat.le_of_ble_eq_true rfl) ?_
  intro p e s m args below meth c Q A C hA hX htab hR
  refine g_lv (lv' := [(0, .ref x0), (1, .long f), (3, .int o), (4, .ref oa)]) [0, 1, 2, 3] rfl ?_
  refine g_aload C dL_is_0 3 rfl ?_
  refine g_iconst C dL_is_2 (v := (nI 0)) (by decide) ?_
  refine g_aload_n C dL_is_3 0 rfl rfl ?_
  refine g_lload_n C dL_is_4 1 rfl rfl ?_
  refine g_iload_n C dL_is_5 2 rfl rfl ?_
  refine g_callTV C hX (t_X5_is l hfl D ty x0 f o) rfl gL_is_X5_is 2 (by decide +kernel) rfl ⟨rfl, rfl⟩ ⟨Nat.le_of_ble_eq_true rfl, Nat.le_of_ble_eq_true rfl⟩ (rest := [.int (nI 0), .ref oa]) (q0 := 0) rfl rfl hA [] [0, 1] rfl rfl rfl (wr := [(x0, .inr (4, [.ref s0, .ref k0, .ref p0, .ref t0])), (oa, .inl (ty.2.1, 1, .inr (.inl fo)))]) rfl rfl rfl (Nat.le_of_ble_eq_true rfl) dL_is_6 ⟨Nat.le_of_ble_eq_true rfl, Nat.le_of_ble_eq_true rfl⟩ rfl ?_ (g_kui (fun r w hr => ?_))
  · intro E q9 hE
    obtain ⟨rfl, hq⟩ := hE
    · refine ⟨tableOf [], ⟨0, 18, 21, 13⟩, tableOf [], x_IO, htab, (fun z hz => nomatch hz), rfl, by decide, C.2.2.2.2.1 _ (List.mem_of_getElem? (i := 1) rfl), va_Nw.use rfl (hX.2.2.1 0 (by decide)), ?_⟩
      refine g_ws (ws' := [(x0, .inr (4, [.ref s0, .ref k0, .ref p0, .ref t0])), (oa, .inl (ty.2.1, 1, .inr (.inl fo)))]) [0, 1] rfl rfl rfl ?_
      refine g_astore C dL_is_21 (by decide) (lv' := [(5, .ref q9), (0, .ref x0), (1, .long f), (3, .int o), (4, .ref oa)]) rfl ?_
      refine g_iconst C dL_is_23 (v := (nI 1)) (by decide) ?_
      refine hR _ _ _ _ _ _ dL_is_24 ?_ (by omega) (by omega)
      exact Or.inr ⟨hq, rfl, rfl⟩
  · skip
    obtain ⟨k, hk, rfl, rfl, rfl⟩ := hr
    refine g_ws (ws' := [(x0, .inr (4, [.ref s0, .ref k0, .ref p0, .ref t0])), (oa, .inl (ty.2.1, 1, .inr (.inl fo)))]) [0, 1] rfl rfl rfl ?_
    refine g_if_eqN C dL_is_9 (tgt := 16) (by decide) (by have := bt_lt (isR f k); omega) (fun h9 => ?_) (fun h9 => ?_)
    · skip
      refine g_lconst C dL_is_16 (v := (lN (isR f k).toNat)) (l0_f h9) ?_
      refine g_last C 1 rfl (by omega) (by omega) (f' := vp_updL fo 0 (lN (isR f k).toNat)) rfl (ws' := [(x0, .inr (4, [.ref s0, .ref k0, .ref p0, .ref t0])), (oa, .inl (ty.2.1, 1, .inr (.inl (vp_updL fo 0 (lN (isR f k).toNat)))))]) rfl dL_is_17 ?_
      refine g_goto C dL_is_18 (tgt := 25) (by decide) ?_
      refine g_iconst C dL_is_25 (v := (nI 0)) (by decide) ?_
      refine hR _ _ _ _ _ _ dL_is_26 ?_ (by omega) (by omega)
      exact Or.inl ⟨k, hk, rfl, rfl, rfl⟩
    · skip
      refine g_lconst C dL_is_12 (v := (lN (isR f k).toNat)) (l1_t h9) ?_
      refine g_goto C dL_is_13 (tgt := 17) (by decide) ?_
      refine g_last C 1 rfl (by omega) (by omega) (f' := vp_updL fo 0 (lN (isR f k).toNat)) rfl (ws' := [(x0, .inr (4, [.ref s0, .ref k0, .ref p0, .ref t0])), (oa, .inl (ty.2.1, 1, .inr (.inl (vp_updL fo 0 (lN (isR f k).toNat)))))]) rfl dL_is_17 ?_
      refine g_goto C dL_is_18 (tgt := 25) (by decide) ?_
      refine g_iconst C dL_is_25 (v := (nI 0)) (by decide) ?_
      refine hR _ _ _ _ _ _ dL_is_26 ?_ (by omega) (by omega)
      exact Or.inl ⟨k, hk, rfl, rfl, rfl⟩

abbrev rm_t_L_search : Room := ({ frames := 7, cells := 1, slots := 6, locals := 171 } : Room)
set_option maxHeartbeats 4000000 in
set_option maxRecDepth 100000 in
theorem t_L_search (l : Launch) (hfl : l.stackTraces = false) (D : va_G) (ty : g_T3) (x0 s0 k0 p0 t0 : Nat) (kf ko ka kb kt kl kp : Nat) (es : List Ent) (fF : Nat → Int64) (oF aF bF tF sF pF : Nat → Int32) (hw : rowOk es fF oF aF bF sF) (sp sa sc : Nat) (p2 : Nat → Nat) (al cs : Nat → Bool) (hp : (∀ k, k < 10 → 1 ≤ p2 k ∧ p2 k ≤ 5) ∧ p2 10 ≤ 5) (bg : Int32)(oa : Nat) (fo : Nat → Int64) : g_U l yL_search wsL_search rm_t_L_search D ty g_XT [.ref x0, .int bg, .ref oa] [(x0, .inr (4, [.ref s0, .ref k0, .ref p0, .ref t0])), (k0, .inr (1, [.int (nI es.length), .ref kf, .ref ko, .ref ka, .ref kb, .ref kt, .ref kl, .ref kp])), (kf, .inl (ty.2.1, 2000, .inr (.inl fF))), (ko, .inl (ty.1, 2000, .inl oF)), (ka, .inl (ty.1, 2000, .inl aF)), (kb, .inl (ty.1, 2000, .inl bF)), (kt, .inl (ty.1, 8, .inl tF)), (kl, .inl (ty.1, 4096, .inl sF)), (s0, .inr (2, [.ref sp, .ref sa, .ref sc])), (sp, .inl (ty.1, 11, .inl (zN p2))), (sa, .inl (ty.2.2, 10, .inl (zB al))), (sc, .inl (ty.2.2, 16, .inl (zB cs))), (oa, .inl (ty.2.1, 1, .inr (.inl fo)))] 1 6 (g_ui (fun r w => (∃ k, k ≤ 6 ∧ bg = nI k ∧ ∃ (fF2 : Nat → Int64) (oF2 aF2 bF2 tF2 sF2 : Nat → Int32), rowOk (sq p2 al cs k 8).2 fF2 oF2 aF2 bF2 sF2 ∧ (∀ j, j < 8 → tF2 j = nI ((sq p2 al cs k 8).1 j)) ∧ r = nI 0 ∧ w = [(x0, .inr (4, [.ref s0, .ref k0, .ref p0, .ref t0])), (k0, .inr (1, [.int (nI ((sq p2 al cs k 8).2.length)), .ref kf, .ref ko, .ref ka, .ref kb, .ref kt, .ref kl, .ref kp])), (kf, .inl (ty.2.1, 2000, .inr (.inl fF2))), (ko, .inl (ty.1, 2000, .inl oF2)), (ka, .inl (ty.1, 2000, .inl aF2)), (kb, .inl (ty.1, 2000, .inl bF2)), (kt, .inl (ty.1, 8, .inl tF2)), (kl, .inl (ty.1, 4096, .inl sF2)), (s0, .inr (2, [.ref sp, .ref sa, .ref sc])), (sp, .inl (ty.1, 11, .inl (zN p2))), (sa, .inl (ty.2.2, 10, .inl (zB al))), (sc, .inl (ty.2.2, 16, .inl (zB cs))), (oa, .inl (ty.2.1, 1, .inr (.inl (vp_updL fo 0 (Int32.toInt64 (nI (sq p2 al cs k 8).2.length))))))]) ∨ ((bg.toInt < 0 ∨ 6 < bg.toInt) ∧ r = nI 1 ∧ w = [(x0, .inr (4, [.ref s0, .ref k0, .ref p0, .ref t0])), (k0, .inr (1, [.int (nI es.length), .ref kf, .ref ko, .ref ka, .ref kb, .ref kt, .ref kl, .ref kp])), (kf, .inl (ty.2.1, 2000, .inr (.inl fF))), (ko, .inl (ty.1, 2000, .inl oF)), (ka, .inl (ty.1, 2000, .inl aF)), (kb, .inl (ty.1, 2000, .inl bF)), (kt, .inl (ty.1, 8, .inl tF)), (kl, .inl (ty.1, 4096, .inl sF)), (s0, .inr (2, [.ref sp, .ref sa, .ref sc])), (sp, .inl (ty.1, 11, .inl (zN p2))), (sa, .inl (ty.2.2, 10, .inl (zB al))), (sc, .inl (ty.2.2, 16, .inl (zB cs))), (oa, .inl (ty.2.1, 1, .inr (.inl fo)))]))) := by
  refine g_ofWi (hh := [(0, 9, 12, 19)]) (cc := cL_search) (nL := 4) (own := RL) (by decide) rfl rfl g_XT_ok (Nat.le_of_ble_eq_true rfl) ?_
  intro p e s m args below meth c Q A C hA hX htab hR
  refine g_lv (lv' := [(0, .ref x0), (1, .int bg), (2, .ref oa)]) [0, 1, 2] rfl ?_
  refine g_aload_n C dL_search_0 2 rfl rfl ?_
  refine g_iconst C dL_search_1 (v := (nI 0)) (by decide) ?_
  refine g_aload_n C dL_search_2 0 rfl rfl ?_
  refine g_iload_n C dL_search_3 1 rfl rfl ?_
  refine g_callTV C hX (t_X5_search l hfl D ty x0 s0 k0 p0 t0 kf ko ka kb kt kl kp es fF oF aF bF tF sF pF hw sp sa sc p2 al cs hp bg) rfl gL_search_X5_search 1 (by decide +kernel) rfl ⟨rfl, rfl⟩ ⟨Nat.le_of_ble_eq_true rfl, Nat.le_of_ble_eq_true rfl⟩ (rest := [.int (nI 0), .ref oa]) (q0 := 0) rfl rfl hA [0, 1, 2, 3, 4, 5, 6, 7, 8, 9, 10, 11] [12] rfl rfl rfl (wr := [(oa, .inl (ty.2.1, 1, .inr (.inl fo)))]) rfl rfl rfl (Nat.le_of_ble_eq_true rfl) dL_search_4 ⟨Nat.le_of_ble_eq_true rfl, Nat.le_of_ble_eq_true rfl⟩ rfl ?_ (g_kui (fun r w hr => ?_))
  · intro E q9 hE
    obtain ⟨rfl, hq⟩ := hE
    · refine ⟨tableOf [], ⟨0, 9, 12, 19⟩, tableOf [], x_IA, htab, (fun z hz => nomatch hz), rfl, by decide, C.2.2.2.2.1 _ (List.mem_of_getElem? (i := 1) rfl), va_Nw.use rfl (hX.2.2.1 1 (by decide)), ?_⟩
      refine g_ws (ws' := [(x0, .inr (4, [.ref s0, .ref k0, .ref p0, .ref t0])), (k0, .inr (1, [.int (nI es.length), .ref kf, .ref ko, .ref ka, .ref kb, .ref kt, .ref kl, .ref kp])), (kf, .inl (ty.2.1, 2000, .inr (.inl fF))), (ko, .inl (ty.1, 2000, .inl oF)), (ka, .inl (ty.1, 2000, .inl aF)), (kb, .inl (ty.1, 2000, .inl bF)), (kt, .inl (ty.1, 8, .inl tF)), (kl, .inl (ty.1, 4096, .inl sF)), (s0, .inr (2, [.ref sp, .ref sa, .ref sc])), (sp, .inl (ty.1, 11, .inl (zN p2))), (sa, .inl (ty.2.2, 10, .inl (zB al))), (sc, .inl (ty.2.2, 16, .inl (zB cs))), (oa, .inl (ty.2.1, 1, .inr (.inl fo)))]) [1, 2, 3, 4, 5, 6, 7, 8, 9, 10, 11, 12, 0] rfl rfl rfl ?_
      refine g_astore_n C dL_search_12 rfl (by decide) (lv' := [(3, .ref q9), (0, .ref x0), (1, .int bg), (2, .ref oa)]) rfl ?_
      refine g_iconst C dL_search_13 (v := (nI 1)) (by decide) ?_
      refine hR _ _ _ _ _ _ dL_search_14 ?_ (by omega) (by omega)
      exact Or.inr ⟨hq, rfl, rfl⟩
  · skip
    obtain ⟨k, hk, rfl, rfl, fF2, oF2, aF2, bF2, tF2, sF2, hw2, ht2, rfl⟩ := hr
    refine g_ws (ws' := [(x0, .inr (4, [.ref s0, .ref k0, .ref p0, .ref t0])), (k0, .inr (1, [.int (nI ((sq p2 al cs k 8).2.length)), .ref kf, .ref ko, .ref ka, .ref kb, .ref kt, .ref kl, .ref kp])), (kf, .inl (ty.2.1, 2000, .inr (.inl fF2))), (ko, .inl (ty.1, 2000, .inl oF2)), (ka, .inl (ty.1, 2000, .inl aF2)), (kb, .inl (ty.1, 2000, .inl bF2)), (kt, .inl (ty.1, 8, .inl tF2)), (kl, .inl (ty.1, 4096, .inl sF2)), (s0, .inr (2, [.ref sp, .ref sa, .ref sc])), (sp, .inl (ty.1, 11, .inl (zN p2))), (sa, .inl (ty.2.2, 10, .inl (zB al))), (sc, .inl (ty.2.2, 16, .inl (zB cs))), (oa, .inl (ty.2.1, 1, .inr (.inl fo)))]) [1, 2, 3, 4, 5, 6, 7, 8, 9, 10, 11, 12, 0] rfl rfl rfl ?_
    refine g_i2l C dL_search_7 (v := (Int32.toInt64 (nI (sq p2 al cs k 8).2.length))) rfl ?_
    refine g_last C 12 rfl (by omega) (by omega) (f' := vp_updL fo 0 (Int32.toInt64 (nI (sq p2 al cs k 8).2.length))) rfl (ws' := [(x0, .inr (4, [.ref s0, .ref k0, .ref p0, .ref t0])), (k0, .inr (1, [.int (nI ((sq p2 al cs k 8).2.length)), .ref kf, .ref ko, .ref ka, .ref kb, .ref kt, .ref kl, .ref kp])), (kf, .inl (ty.2.1, 2000, .inr (.inl fF2))), (ko, .inl (ty.1, 2000, .inl oF2)), (ka, .inl (ty.1, 2000, .inl aF2)), (kb, .inl (ty.1, 2000, .inl bF2)), (kt, .inl (ty.1, 8, .inl tF2)), (kl, .inl (ty.1, 4096, .inl sF2)), (s0, .inr (2, [.ref sp, .ref sa, .ref sc])), (sp, .inl (ty.1, 11, .inl (zN p2))), (sa, .inl (ty.2.2, 10, .inl (zB al))), (sc, .inl (ty.2.2, 16, .inl (zB cs))), (oa, .inl (ty.2.1, 1, .inr (.inl (vp_updL fo 0 (Int32.toInt64 (nI (sq p2 al cs k 8).2.length))))))]) rfl dL_search_8 ?_
    refine g_goto C dL_search_9 (tgt := 15) (by decide) ?_
    refine g_iconst C dL_search_15 (v := (nI 0)) (by decide) ?_
    refine hR _ _ _ _ _ _ dL_search_16 ?_ (by omega) (by omega)
    exact Or.inl ⟨k, hk, rfl, _, _, _, _, _, _, hw2, ht2, rfl, rfl⟩

abbrev rm_t_L_ofCost : Room := ({ frames := 7, cells := 1, slots := 6, locals := 103 } : Room)
set_option maxHeartbeats 4000000 in
set_option maxRecDepth 100000 in
theorem t_L_ofCost (l : Launch) (hfl : l.stackTraces = false) (D : va_G) (ty : g_T3) (x0 s0 p0 t0 : Nat) (k0 kf ko ka kb kt kl kp : Nat) (n : Nat) (hn : n ≤ 2000) (tF : Nat → Int32) (st : Nat → Nat) (ht : ∀ j, j < 8 → tF j = nI (st j)) (o : Int32)(oa : Nat) (fo : Nat → Int64) : g_U l yL_ofCost wsL_ofCost rm_t_L_ofCost D ty g_XT [.ref x0, .int o, .ref oa] [(x0, .inr (4, [.ref s0, .ref k0, .ref p0, .ref t0])), (k0, .inr (1, [.int (nI n), .ref kf, .ref ko, .ref ka, .ref kb, .ref kt, .ref kl, .ref kp])), (kt, .inl (ty.1, 8, .inl tF)), (oa, .inl (ty.2.1, 1, .inr (.inl fo)))] 1 6 (g_ui (fun r w => (∃ k, k ≤ 6 ∧ o = nI k ∧ r = nI 0 ∧ w = [(x0, .inr (4, [.ref s0, .ref k0, .ref p0, .ref t0])), (k0, .inr (1, [.int (nI n), .ref kf, .ref ko, .ref ka, .ref kb, .ref kt, .ref kl, .ref kp])), (kt, .inl (ty.1, 8, .inl tF)), (oa, .inl (ty.2.1, 1, .inr (.inl (vp_updL fo 0 (Int32.toInt64 (nI (st (k + 1)) - nI (st k)))))))]) ∨ ((o.toInt < 0 ∨ 6 < o.toInt) ∧ r = nI 1 ∧ w = [(x0, .inr (4, [.ref s0, .ref k0, .ref p0, .ref t0])), (k0, .inr (1, [.int (nI n), .ref kf, .ref ko, .ref ka, .ref kb, .ref kt, .ref kl, .ref kp])), (kt, .inl (ty.1, 8, .inl tF)), (oa, .inl (ty.2.1, 1, .inr (.inl fo)))]))) := by
  refine g_ofWi (hh := [(0, 9, 12, 19)]) (cc := cL_ofCost) (nL := 4) (own := RL) (by decide) rfl rfl g_XT_ok (Nat.le_of_ble_eq_true rfl) ?_
  intro p e s m args below meth c Q A C hA hX htab hR
  refine g_lv (lv' := [(0, .ref x0), (1, .int o), (2, .ref oa)]) [0, 1, 2] rfl ?_
  refine g_aload_n C dL_ofCost_0 2 rfl rfl ?_
  refine g_iconst C dL_ofCost_1 (v := (nI 0)) (by decide) ?_
  refine g_aload_n C dL_ofCost_2 0 rfl rfl ?_
  refine g_iload_n C dL_ofCost_3 1 rfl rfl ?_
  refine g_callTV C hX (t_X5_ofCost l hfl D ty x0 s0 p0 t0 k0 kf ko ka kb kt kl kp n hn tF st ht o) rfl gL_ofCost_X5_ofCost 1 (by decide +kernel) rfl ⟨rfl, rfl⟩ ⟨Nat.le_of_ble_eq_true rfl, Nat.le_of_ble_eq_true rfl⟩ (rest := [.int (nI 0), .ref oa]) (q0 := 0) rfl rfl hA [0, 1, 2] [3] rfl rfl rfl (wr := [(oa, .inl (ty.2.1, 1, .inr (.inl fo)))]) rfl rfl rfl (Nat.le_of_ble_eq_true rfl) dL_ofCost_4 ⟨Nat.le_of_ble_eq_true rfl, Nat.le_of_ble_eq_true rfl⟩ rfl ?_ (g_kui (fun r w hr => ?_))
  · intro E q9 hE
    obtain ⟨rfl, hq⟩ := hE
    · refine ⟨tableOf [], ⟨0, 9, 12, 19⟩, tableOf [], x_IA, htab, (fun z hz => nomatch hz), rfl, by decide, C.2.2.2.2.1 _ (List.mem_of_getElem? (i := 1) rfl), va_Nw.use rfl (hX.2.2.1 1 (by decide)), ?_⟩
      refine g_ws (ws' := [(x0, .inr (4, [.ref s0, .ref k0, .ref p0, .ref t0])), (k0, .inr (1, [.int (nI n), .ref kf, .ref ko, .ref ka, .ref kb, .ref kt, .ref kl, .ref kp])), (kt, .inl (ty.1, 8, .inl tF)), (oa, .inl (ty.2.1, 1, .inr (.inl fo)))]) [1, 2, 3, 0] rfl rfl rfl ?_
      refine g_astore_n C dL_ofCost_12 rfl (by decide) (lv' := [(3, .ref q9), (0, .ref x0), (1, .int o), (2, .ref oa)]) rfl ?_
      refine g_iconst C dL_ofCost_13 (v := (nI 1)) (by decide) ?_
      refine hR _ _ _ _ _ _ dL_ofCost_14 ?_ (by omega) (by omega)
      exact Or.inr ⟨hq, rfl, rfl⟩
  · skip
    obtain ⟨k, hk, rfl, rfl, rfl⟩ := hr
    refine g_ws (ws' := [(x0, .inr (4, [.ref s0, .ref k0, .ref p0, .ref t0])), (k0, .inr (1, [.int (nI n), .ref kf, .ref ko, .ref ka, .ref kb, .ref kt, .ref kl, .ref kp])), (kt, .inl (ty.1, 8, .inl tF)), (oa, .inl (ty.2.1, 1, .inr (.inl fo)))]) [1, 2, 3, 0] rfl rfl rfl ?_
    refine g_i2l C dL_ofCost_7 (v := (Int32.toInt64 (nI (st (k + 1)) - nI (st k)))) rfl ?_
    refine g_last C 3 rfl (by omega) (by omega) (f' := vp_updL fo 0 (Int32.toInt64 (nI (st (k + 1)) - nI (st k)))) rfl (ws' := [(x0, .inr (4, [.ref s0, .ref k0, .ref p0, .ref t0])), (k0, .inr (1, [.int (nI n), .ref kf, .ref ko, .ref ka, .ref kb, .ref kt, .ref kl, .ref kp])), (kt, .inl (ty.1, 8, .inl tF)), (oa, .inl (ty.2.1, 1, .inr (.inl (vp_updL fo 0 (Int32.toInt64 (nI (st (k + 1)) - nI (st k)))))))]) rfl dL_ofCost_8 ?_
    refine g_goto C dL_ofCost_9 (tgt := 15) (by decide) ?_
    refine g_iconst C dL_ofCost_15 (v := (nI 0)) (by decide) ?_
    refine hR _ _ _ _ _ _ dL_ofCost_16 ?_ (by omega) (by omega)
    exact Or.inl ⟨k, hk, rfl, rfl, rfl⟩

abbrev rm_t_L_function : Room := ({ frames := 7, cells := 1, slots := 6, locals := 103 } : Room)
set_option maxHeartbeats 4000000 in
set_option maxRecDepth 100000 in
theorem t_L_function (l : Launch) (hfl : l.stackTraces = false) (D : va_G) (ty : g_T3) (x0 s0 p0 t0 : Nat) (k0 kf ko ka kb kt kl kp : Nat) (es : List Ent) (fF : Nat → Int64) (oF aF bF tF sF pF : Nat → Int32) (hw : rowOk es fF oF aF bF sF) (en : Int32)(oa : Nat) (fo : Nat → Int64) : g_U l yL_function wsL_function rm_t_L_function D ty g_XT [.ref x0, .int en, .ref oa] [(x0, .inr (4, [.ref s0, .ref k0, .ref p0, .ref t0])), (k0, .inr (1, [.int (nI es.length), .ref kf, .ref ko, .ref ka, .ref kb, .ref kt, .ref kl, .ref kp])), (kf, .inl (ty.2.1, 2000, .inr (.inl fF))), (oa, .inl (ty.2.1, 1, .inr (.inl fo)))] 1 6 (g_ui (fun r w => (∃ k, k < es.length ∧ en = nI k ∧ r = nI 0 ∧ w = [(x0, .inr (4, [.ref s0, .ref k0, .ref p0, .ref t0])), (k0, .inr (1, [.int (nI es.length), .ref kf, .ref ko, .ref ka, .ref kb, .ref kt, .ref kl, .ref kp])), (kf, .inl (ty.2.1, 2000, .inr (.inl fF))), (oa, .inl (ty.2.1, 1, .inr (.inl (vp_updL fo 0 (eF es k)))))]) ∨ ((en.toInt < 0 ∨ (es.length : Int) ≤ en.toInt) ∧ r = nI 1 ∧ w = [(x0, .inr (4, [.ref s0, .ref k0, .ref p0, .ref t0])), (k0, .inr (1, [.int (nI es.length), .ref kf, .ref ko, .ref ka, .ref kb, .ref kt, .ref kl, .ref kp])), (kf, .inl (ty.2.1, 2000, .inr (.inl fF))), (oa, .inl (ty.2.1, 1, .inr (.inl fo)))]))) := by
  refine g_ofWi (hh := [(0, 8, 11, 13)]) (cc := cL_function) (nL := 4) (own := RL) (by decide) rfl rfl g_XT_ok (Nat.le_of_ble_eq_true rfl) ?_
  intro p e s m args below meth c Q A C hA hX htab hR
  refine g_lv (lv' := [(0, .ref x0), (1, .int en), (2, .ref oa)]) [0, 1, 2] rfl ?_
  refine g_aload_n C dL_function_0 2 rfl rfl ?_
  refine g_iconst C dL_function_1 (v := (nI 0)) (by decide) ?_
  refine g_aload_n C dL_function_2 0 rfl rfl ?_
  refine g_iload_n C dL_function_3 1 rfl rfl ?_
  refine g_callTV C hX (t_X5_function l hfl D ty x0 s0 p0 t0 k0 kf ko ka kb kt kl kp es fF oF aF bF tF sF pF hw en) rfl gL_function_X5_function 1 (by decide +kernel) rfl ⟨rfl, rfl⟩ ⟨Nat.le_of_ble_eq_true rfl, Nat.le_of_ble_eq_true rfl⟩ (rest := [.int (nI 0), .ref oa]) (q0 := 0) rfl rfl hA [0, 1, 2] [3] rfl rfl rfl (wr := [(oa, .inl (ty.2.1, 1, .inr (.inl fo)))]) rfl rfl rfl (Nat.le_of_ble_eq_true rfl) dL_function_4 ⟨Nat.le_of_ble_eq_true rfl, Nat.le_of_ble_eq_true rfl⟩ rfl ?_ (g_kul (fun r w hr => ?_))
  · intro E q9 hE
    obtain ⟨rfl, hq⟩ := hE
    · refine ⟨tableOf [], ⟨0, 8, 11, 13⟩, tableOf [], x_IO, htab, (fun z hz => nomatch hz), rfl, by decide, C.2.2.2.2.1 _ (List.mem_of_getElem? (i := 1) rfl), va_Nw.use rfl (hX.2.2.1 0 (by decide)), ?_⟩
      refine g_ws (ws' := [(x0, .inr (4, [.ref s0, .ref k0, .ref p0, .ref t0])), (k0, .inr (1, [.int (nI es.length), .ref kf, .ref ko, .ref ka, .ref kb, .ref kt, .ref kl, .ref kp])), (kf, .inl (ty.2.1, 2000, .inr (.inl fF))), (oa, .inl (ty.2.1, 1, .inr (.inl fo)))]) [1, 2, 3, 0] rfl rfl rfl ?_
      refine g_astore_n C dL_function_11 rfl (by decide) (lv' := [(3, .ref q9), (0, .ref x0), (1, .int en), (2, .ref oa)]) rfl ?_
      refine g_iconst C dL_function_12 (v := (nI 1)) (by decide) ?_
      refine hR _ _ _ _ _ _ dL_function_13 ?_ (by omega) (by omega)
      exact Or.inr ⟨hq, rfl, rfl⟩
  · skip
    obtain ⟨k, hk, rfl, rfl, rfl⟩ := hr
    refine g_ws (ws' := [(x0, .inr (4, [.ref s0, .ref k0, .ref p0, .ref t0])), (k0, .inr (1, [.int (nI es.length), .ref kf, .ref ko, .ref ka, .ref kb, .ref kt, .ref kl, .ref kp])), (kf, .inl (ty.2.1, 2000, .inr (.inl fF))), (oa, .inl (ty.2.1, 1, .inr (.inl fo)))]) [1, 2, 3, 0] rfl rfl rfl ?_
    refine g_last C 3 rfl (by omega) (by omega) (f' := vp_updL fo 0 (eF es k)) rfl (ws' := [(x0, .inr (4, [.ref s0, .ref k0, .ref p0, .ref t0])), (k0, .inr (1, [.int (nI es.length), .ref kf, .ref ko, .ref ka, .ref kb, .ref kt, .ref kl, .ref kp])), (kf, .inl (ty.2.1, 2000, .inr (.inl fF))), (oa, .inl (ty.2.1, 1, .inr (.inl (vp_updL fo 0 (eF es k)))))]) rfl dL_function_7 ?_
    refine g_goto C dL_function_8 (tgt := 14) (by decide) ?_
    refine g_iconst C dL_function_14 (v := (nI 0)) (by decide) ?_
    refine hR _ _ _ _ _ _ dL_function_15 ?_ (by omega) (by omega)
    exact Or.inl ⟨k, hk, rfl, rfl, rfl⟩

abbrev rm_t_L_entry : Room := ({ frames := 7, cells := 1, slots := 6, locals := 104 } : Room)
set_option maxHeartbeats 4000000 in
set_option maxRecDepth 100000 in
theorem t_L_entry (l : Launch) (hfl : l.stackTraces = false) (D : va_G) (ty : g_T3) (x0 s0 p0 t0 : Nat) (k0 kf ko ka kb kt kl kp : Nat) (es : List Ent) (fF : Nat → Int64) (oF aF bF tF sF pF : Nat → Int32) (hw : rowOk es fF oF aF bF sF) (st : Nat → Nat) (ht : ∀ j, j < 8 → tF j = nI (st j)) (hb : ∀ j, j ≤ 7 → st j < 2 ^ 31) (hco : coOk es st) (en wh : Int32)(oa : Nat) (fo : Nat → Int64) : g_U l yL_entry wsL_entry rm_t_L_entry D ty g_XT [.ref x0, .int en, .int wh, .ref oa] [(x0, .inr (4, [.ref s0, .ref k0, .ref p0, .ref t0])), (k0, .inr (1, [.int (nI es.length), .ref kf, .ref ko, .ref ka, .ref kb, .ref kt, .ref kl, .ref kp])), (ko, .inl (ty.1, 2000, .inl oF)), (ka, .inl (ty.1, 2000, .inl aF)), (kb, .inl (ty.1, 2000, .inl bF)), (kt, .inl (ty.1, 8, .inl tF)), (oa, .inl (ty.2.1, 1, .inr (.inl fo)))] 1 6 (g_ui (fun r w => (∃ k q, k < es.length ∧ en = nI k ∧ q ≤ 3 ∧ wh = nI q ∧ r = nI 0 ∧ w = [(x0, .inr (4, [.ref s0, .ref k0, .ref p0, .ref t0])), (k0, .inr (1, [.int (nI es.length), .ref kf, .ref ko, .ref ka, .ref kb, .ref kt, .ref kl, .ref kp])), (ko, .inl (ty.1, 2000, .inl oF)), (ka, .inl (ty.1, 2000, .inl aF)), (kb, .inl (ty.1, 2000, .inl bF)), (kt, .inl (ty.1, 8, .inl tF)), (oa, .inl (ty.2.1, 1, .inr (.inl (vp_updL fo 0 (Int32.toInt64 (tlV es k q))))))]) ∨ (((en.toInt < 0 ∨ (es.length : Int) ≤ en.toInt) ∨ (wh.toInt < 0 ∨ 3 < wh.toInt)) ∧ r = nI 1 ∧ w = [(x0, .inr (4, [.ref s0, .ref k0, .ref p0, .ref t0])), (k0, .inr (1, [.int (nI es.length), .ref kf, .ref ko, .ref ka, .ref kb, .ref kt, .ref kl, .ref kp])), (ko, .inl (ty.1, 2000, .inl oF)), (ka, .inl (ty.1, 2000, .inl aF)), (kb, .inl (ty.1, 2000, .inl bF)), (kt, .inl (ty.1, 8, .inl tF)), (oa, .inl (ty.2.1, 1, .inr (.inl fo)))]))) := by
  refine g_ofWi (hh := [(0, 10, 13, 13)]) (cc := cL_entry) (nL := 5) (own := RL) (by decide) rfl rfl g_XT_ok (Nat.le_of_ble_eq_true rfl) ?_
  intro p e s m args below meth c Q A C hA hX htab hR
  refine g_lv (lv' := [(0, .ref x0), (1, .int en), (2, .int wh), (3, .ref oa)]) [0, 1, 2, 3] rfl ?_
  refine g_aload_n C dL_entry_0 3 rfl rfl ?_
  refine g_iconst C dL_entry_1 (v := (nI 0)) (by decide) ?_
  refine g_aload_n C dL_entry_2 0 rfl rfl ?_
  refine g_iload_n C dL_entry_3 1 rfl rfl ?_
  refine g_iload_n C dL_entry_4 2 rfl rfl ?_
  refine g_callTV C hX (t_X5_entry l hfl D ty x0 s0 p0 t0 k0 kf ko ka kb kt kl kp es fF oF aF bF tF sF pF hw st ht hb hco en wh) rfl gL_entry_X5_entry 2 (by decide +kernel) rfl ⟨rfl, rfl⟩ ⟨Nat.le_of_ble_eq_true rfl, Nat.le_of_ble_eq_true rfl⟩ (rest := [.int (nI 0), .ref oa]) (q0 := 0) rfl rfl hA [0, 1, 2, 3, 4, 5] [6] rfl rfl rfl (wr := [(oa, .inl (ty.2.1, 1, .inr (.inl fo)))]) rfl rfl rfl (Nat.le_of_ble_eq_true rfl) dL_entry_5 ⟨Nat.le_of_ble_eq_true rfl, Nat.le_of_ble_eq_true rfl⟩ rfl ?_ (g_kui (fun r w hr => ?_))
  · intro E q9 hE
    obtain ⟨rfl, hq⟩ := hE
    · refine ⟨tableOf [], ⟨0, 10, 13, 13⟩, tableOf [], x_IO, htab, (fun z hz => nomatch hz), rfl, by decide, C.2.2.2.2.1 _ (List.mem_of_getElem? (i := 1) rfl), va_Nw.use rfl (hX.2.2.1 0 (by decide)), ?_⟩
      refine g_ws (ws' := [(x0, .inr (4, [.ref s0, .ref k0, .ref p0, .ref t0])), (k0, .inr (1, [.int (nI es.length), .ref kf, .ref ko, .ref ka, .ref kb, .ref kt, .ref kl, .ref kp])), (ko, .inl (ty.1, 2000, .inl oF)), (ka, .inl (ty.1, 2000, .inl aF)), (kb, .inl (ty.1, 2000, .inl bF)), (kt, .inl (ty.1, 8, .inl tF)), (oa, .inl (ty.2.1, 1, .inr (.inl fo)))]) [1, 2, 3, 4, 5, 6, 0] rfl rfl rfl ?_
      refine g_astore C dL_entry_13 (by decide) (lv' := [(4, .ref q9), (0, .ref x0), (1, .int en), (2, .int wh), (3, .ref oa)]) rfl ?_
      refine g_iconst C dL_entry_15 (v := (nI 1)) (by decide) ?_
      refine hR _ _ _ _ _ _ dL_entry_16 ?_ (by omega) (by omega)
      exact Or.inr ⟨hq, rfl, rfl⟩
  · skip
    obtain ⟨k, q, hk, rfl, hq3, rfl, rfl, rfl⟩ := hr
    refine g_ws (ws' := [(x0, .inr (4, [.ref s0, .ref k0, .ref p0, .ref t0])), (k0, .inr (1, [.int (nI es.length), .ref kf, .ref ko, .ref ka, .ref kb, .ref kt, .ref kl, .ref kp])), (ko, .inl (ty.1, 2000, .inl oF)), (ka, .inl (ty.1, 2000, .inl aF)), (kb, .inl (ty.1, 2000, .inl bF)), (kt, .inl (ty.1, 8, .inl tF)), (oa, .inl (ty.2.1, 1, .inr (.inl fo)))]) [1, 2, 3, 4, 5, 6, 0] rfl rfl rfl ?_
    refine g_i2l C dL_entry_8 (v := (Int32.toInt64 (tlV es k q))) rfl ?_
    refine g_last C 6 rfl (by omega) (by omega) (f' := vp_updL fo 0 (Int32.toInt64 (tlV es k q))) rfl (ws' := [(x0, .inr (4, [.ref s0, .ref k0, .ref p0, .ref t0])), (k0, .inr (1, [.int (nI es.length), .ref kf, .ref ko, .ref ka, .ref kb, .ref kt, .ref kl, .ref kp])), (ko, .inl (ty.1, 2000, .inl oF)), (ka, .inl (ty.1, 2000, .inl aF)), (kb, .inl (ty.1, 2000, .inl bF)), (kt, .inl (ty.1, 8, .inl tF)), (oa, .inl (ty.2.1, 1, .inr (.inl (vp_updL fo 0 (Int32.toInt64 (tlV es k q))))))]) rfl dL_entry_9 ?_
    refine g_goto C dL_entry_10 (tgt := 17) (by decide) ?_
    refine g_iconst C dL_entry_17 (v := (nI 0)) (by decide) ?_
    refine hR _ _ _ _ _ _ dL_entry_18 ?_ (by omega) (by omega)
    exact Or.inl ⟨k, q, hk, rfl, hq3, rfl, rfl, rfl⟩

abbrev rm_t_L_fit : Room := ({ frames := 7, cells := 1, slots := 6, locals := 105 } : Room)
set_option maxHeartbeats 4000000 in
set_option maxRecDepth 100000 in
theorem t_L_fit (l : Launch) (hfl : l.stackTraces = false) (D : va_G) (ty : g_T3) (x0 s0 p0 t0 : Nat) (k0 kf ko ka kb kt kl kp : Nat) (es : List Ent) (fF : Nat → Int64) (oF aF bF tF sF pF : Nat → Int32) (hw : rowOk es fF oF aF bF sF) (f : Int64) (o : Int32)(oa : Nat) (fo : Nat → Int64) : g_U l yL_fit wsL_fit rm_t_L_fit D ty g_XT [.ref x0, .long f, .int o, .ref oa] [(x0, .inr (4, [.ref s0, .ref k0, .ref p0, .ref t0])), (k0, .inr (1, [.int (nI es.length), .ref kf, .ref ko, .ref ka, .ref kb, .ref kt, .ref kl, .ref kp])), (kf, .inl (ty.2.1, 2000, .inr (.inl fF))), (oa, .inl (ty.2.1, 1, .inr (.inl fo)))] 1 6 (g_ui (fun r w => (∃ k rv, k ≤ 65535 ∧ o = nI k ∧ fstI (fun j => (eF es j ^^^ f) &&& mkN k 16 = 0) es.length rv ∧ r = nI 0 ∧ w = [(x0, .inr (4, [.ref s0, .ref k0, .ref p0, .ref t0])), (k0, .inr (1, [.int (nI es.length), .ref kf, .ref ko, .ref ka, .ref kb, .ref kt, .ref kl, .ref kp])), (kf, .inl (ty.2.1, 2000, .inr (.inl fF))), (oa, .inl (ty.2.1, 1, .inr (.inl (vp_updL fo 0 (Int32.toInt64 (rv))))))]) ∨ ((o.toInt < 0 ∨ 65535 < o.toInt) ∧ r = nI 1 ∧ w = [(x0, .inr (4, [.ref s0, .ref k0, .ref p0, .ref t0])), (k0, .inr (1, [.int (nI es.length), .ref kf, .ref ko, .ref ka, .ref kb, .ref kt, .ref kl, .ref kp])), (kf, .inl (ty.2.1, 2000, .inr (.inl fF))), (oa, .inl (ty.2.1, 1, .inr (.inl fo)))]))) := by
  refine g_ofWi (hh := [(0, 11, 14, 19)]) (cc := cL_fit) (nL := 6) (own := RL) (by decide) rfl rfl g_XT_ok (Nat.le_of_ble_eq_true rfl) ?_
  intro p e s m args below meth c Q A C hA hX htab hR
  refine g_lv (lv' := [(0, .ref x0), (1, .long f), (3, .int o), (4, .ref oa)]) [0, 1, 2, 3] rfl ?_
  refine g_aload C dL_fit_0 3 rfl ?_
  refine g_iconst C dL_fit_2 (v := (nI 0)) (by decide) ?_
  refine g_aload_n C dL_fit_3 0 rfl rfl ?_
  refine g_lload_n C dL_fit_4 1 rfl rfl ?_
  refine g_iload_n C dL_fit_5 2 rfl rfl ?_
  refine g_callTV C hX (t_X5_fit l hfl D ty x0 s0 p0 t0 k0 kf ko ka kb kt kl kp es fF oF aF bF tF sF pF hw f o) rfl gL_fit_X5_fit 2 (by decide +kernel) rfl ⟨rfl, rfl⟩ ⟨Nat.le_of_ble_eq_true rfl, Nat.le_of_ble_eq_true rfl⟩ (rest := [.int (nI 0), .ref oa]) (q0 := 0) rfl rfl hA [0, 1, 2] [3] rfl rfl rfl (wr := [(oa, .inl (ty.2.1, 1, .inr (.inl fo)))]) rfl rfl rfl (Nat.le_of_ble_eq_true rfl) dL_fit_6 ⟨Nat.le_of_ble_eq_true rfl, Nat.le_of_ble_eq_true rfl⟩ rfl ?_ (g_kui (fun rv w hr => ?_))
  · intro E q9 hE
    obtain ⟨rfl, hq⟩ := hE
    · refine ⟨tableOf [], ⟨0, 11, 14, 19⟩, tableOf [], x_IA, htab, (fun z hz => nomatch hz), rfl, by decide, C.2.2.2.2.1 _ (List.mem_of_getElem? (i := 1) rfl), va_Nw.use rfl (hX.2.2.1 1 (by decide)), ?_⟩
      refine g_ws (ws' := [(x0, .inr (4, [.ref s0, .ref k0, .ref p0, .ref t0])), (k0, .inr (1, [.int (nI es.length), .ref kf, .ref ko, .ref ka, .ref kb, .ref kt, .ref kl, .ref kp])), (kf, .inl (ty.2.1, 2000, .inr (.inl fF))), (oa, .inl (ty.2.1, 1, .inr (.inl fo)))]) [1, 2, 3, 0] rfl rfl rfl ?_
      refine g_astore C dL_fit_14 (by decide) (lv' := [(5, .ref q9), (0, .ref x0), (1, .long f), (3, .int o), (4, .ref oa)]) rfl ?_
      refine g_iconst C dL_fit_16 (v := (nI 1)) (by decide) ?_
      refine hR _ _ _ _ _ _ dL_fit_17 ?_ (by omega) (by omega)
      exact Or.inr ⟨hq, rfl, rfl⟩
  · skip
    obtain ⟨k, hk, rfl, hv, rfl⟩ := hr
    refine g_ws (ws' := [(x0, .inr (4, [.ref s0, .ref k0, .ref p0, .ref t0])), (k0, .inr (1, [.int (nI es.length), .ref kf, .ref ko, .ref ka, .ref kb, .ref kt, .ref kl, .ref kp])), (kf, .inl (ty.2.1, 2000, .inr (.inl fF))), (oa, .inl (ty.2.1, 1, .inr (.inl fo)))]) [1, 2, 3, 0] rfl rfl rfl ?_
    refine g_i2l C dL_fit_9 (v := (Int32.toInt64 rv)) rfl ?_
    refine g_last C 3 rfl (by omega) (by omega) (f' := vp_updL fo 0 (Int32.toInt64 rv)) rfl (ws' := [(x0, .inr (4, [.ref s0, .ref k0, .ref p0, .ref t0])), (k0, .inr (1, [.int (nI es.length), .ref kf, .ref ko, .ref ka, .ref kb, .ref kt, .ref kl, .ref kp])), (kf, .inl (ty.2.1, 2000, .inr (.inl fF))), (oa, .inl (ty.2.1, 1, .inr (.inl (vp_updL fo 0 (Int32.toInt64 rv)))))]) rfl dL_fit_10 ?_
    refine g_goto C dL_fit_11 (tgt := 18) (by decide) ?_
    refine g_iconst C dL_fit_18 (v := (nI 0)) (by decide) ?_
    refine hR _ _ _ _ _ _ dL_fit_19 ?_ (by omega) (by omega)
    exact Or.inl ⟨k, rv, hk, rfl, hv, rfl, rfl⟩

abbrev rm_t_L_parts : Room := ({ frames := 7, cells := 1, slots := 6, locals := 103 } : Room)
set_option maxHeartbeats 4000000 in
set_option maxRecDepth 100000 in
theorem t_L_parts (l : Launch) (hfl : l.stackTraces = false) (D : va_G) (ty : g_T3) (x0 s0 p0 t0 : Nat) (k0 kf ko ka kb kt kl kp : Nat) (es : List Ent) (fF : Nat → Int64) (oF aF bF tF sF pF : Nat → Int32) (hw : rowOk es fF oF aF bF sF) (hwf : wfE es) (en : Int32)(oa : Nat) (fo : Nat → Int64) : g_U l yL_parts wsL_parts rm_t_L_parts D ty g_XT [.ref x0, .int en, .ref oa] [(x0, .inr (4, [.ref s0, .ref k0, .ref p0, .ref t0])), (k0, .inr (1, [.int (nI es.length), .ref kf, .ref ko, .ref ka, .ref kb, .ref kt, .ref kl, .ref kp])), (ko, .inl (ty.1, 2000, .inl oF)), (ka, .inl (ty.1, 2000, .inl aF)), (kb, .inl (ty.1, 2000, .inl bF)), (kp, .inl (ty.1, 13, .inl pF)), (oa, .inl (ty.2.1, 1, .inr (.inl fo)))] 1 6 (g_ui (fun r w => (∃ (k n : Nat) (pF2 : Nat → Int32), k < es.length ∧ en = nI k ∧ prt es k n ∧ r = nI 0 ∧ w = [(x0, .inr (4, [.ref s0, .ref k0, .ref p0, .ref t0])), (k0, .inr (1, [.int (nI es.length), .ref kf, .ref ko, .ref ka, .ref kb, .ref kt, .ref kl, .ref kp])), (ko, .inl (ty.1, 2000, .inl oF)), (ka, .inl (ty.1, 2000, .inl aF)), (kb, .inl (ty.1, 2000, .inl bF)), (kp, .inl (ty.1, 13, .inl pF2)), (oa, .inl (ty.2.1, 1, .inr (.inl (vp_updL fo 0 (Int32.toInt64 (nI n))))))]) ∨ ((en.toInt < 0 ∨ (es.length : Int) ≤ en.toInt) ∧ r = nI 1 ∧ w = [(x0, .inr (4, [.ref s0, .ref k0, .ref p0, .ref t0])), (k0, .inr (1, [.int (nI es.length), .ref kf, .ref ko, .ref ka, .ref kb, .ref kt, .ref kl, .ref kp])), (ko, .inl (ty.1, 2000, .inl oF)), (ka, .inl (ty.1, 2000, .inl aF)), (kb, .inl (ty.1, 2000, .inl bF)), (kp, .inl (ty.1, 13, .inl pF)), (oa, .inl (ty.2.1, 1, .inr (.inl fo)))]))) := by
  refine g_ofWi (hh := [(0, 9, 12, 13)]) (cc := cL_parts) (nL := 4) (own := RL) (by decide) rfl rfl g_XT_ok (Nat.le_of_ble_eq_true rfl) ?_
  intro p e s m args below meth c Q A C hA hX htab hR
  refine g_lv (lv' := [(0, .ref x0), (1, .int en), (2, .ref oa)]) [0, 1, 2] rfl ?_
  refine g_aload_n C dL_parts_0 2 rfl rfl ?_
  refine g_iconst C dL_parts_1 (v := (nI 0)) (by decide) ?_
  refine g_aload_n C dL_parts_2 0 rfl rfl ?_
  refine g_iload_n C dL_parts_3 1 rfl rfl ?_
  refine g_callTV C hX (t_X5_parts l hfl D ty x0 s0 p0 t0 k0 kf ko ka kb kt kl kp es fF oF aF bF tF sF pF hw hwf en) rfl gL_parts_X5_parts 1 (by decide +kernel) rfl ⟨rfl, rfl⟩ ⟨Nat.le_of_ble_eq_true rfl, Nat.le_of_ble_eq_true rfl⟩ (rest := [.int (nI 0), .ref oa]) (q0 := 0) rfl rfl hA [0, 1, 2, 3, 4, 5] [6] rfl rfl rfl (wr := [(oa, .inl (ty.2.1, 1, .inr (.inl fo)))]) rfl rfl rfl (Nat.le_of_ble_eq_true rfl) dL_parts_4 ⟨Nat.le_of_ble_eq_true rfl, Nat.le_of_ble_eq_true rfl⟩ rfl ?_ (g_kui (fun r w hr => ?_))
  · intro E q9 hE
    obtain ⟨rfl, hq⟩ := hE
    · refine ⟨tableOf [], ⟨0, 9, 12, 13⟩, tableOf [], x_IO, htab, (fun z hz => nomatch hz), rfl, by decide, C.2.2.2.2.1 _ (List.mem_of_getElem? (i := 1) rfl), va_Nw.use rfl (hX.2.2.1 0 (by decide)), ?_⟩
      refine g_ws (ws' := [(x0, .inr (4, [.ref s0, .ref k0, .ref p0, .ref t0])), (k0, .inr (1, [.int (nI es.length), .ref kf, .ref ko, .ref ka, .ref kb, .ref kt, .ref kl, .ref kp])), (ko, .inl (ty.1, 2000, .inl oF)), (ka, .inl (ty.1, 2000, .inl aF)), (kb, .inl (ty.1, 2000, .inl bF)), (kp, .inl (ty.1, 13, .inl pF)), (oa, .inl (ty.2.1, 1, .inr (.inl fo)))]) [1, 2, 3, 4, 5, 6, 0] rfl rfl rfl ?_
      refine g_astore_n C dL_parts_12 rfl (by decide) (lv' := [(3, .ref q9), (0, .ref x0), (1, .int en), (2, .ref oa)]) rfl ?_
      refine g_iconst C dL_parts_13 (v := (nI 1)) (by decide) ?_
      refine hR _ _ _ _ _ _ dL_parts_14 ?_ (by omega) (by omega)
      exact Or.inr ⟨hq, rfl, rfl⟩
  · skip
    obtain ⟨k, n, pF2, hk, rfl, rfl, hpr, rfl⟩ := hr
    refine g_ws (ws' := [(x0, .inr (4, [.ref s0, .ref k0, .ref p0, .ref t0])), (k0, .inr (1, [.int (nI es.length), .ref kf, .ref ko, .ref ka, .ref kb, .ref kt, .ref kl, .ref kp])), (ko, .inl (ty.1, 2000, .inl oF)), (ka, .inl (ty.1, 2000, .inl aF)), (kb, .inl (ty.1, 2000, .inl bF)), (kp, .inl (ty.1, 13, .inl pF2)), (oa, .inl (ty.2.1, 1, .inr (.inl fo)))]) [1, 2, 3, 4, 5, 6, 0] rfl rfl rfl ?_
    refine g_i2l C dL_parts_7 (v := (Int32.toInt64 (nI n))) rfl ?_
    refine g_last C 6 rfl (by omega) (by omega) (f' := vp_updL fo 0 (Int32.toInt64 (nI n))) rfl (ws' := [(x0, .inr (4, [.ref s0, .ref k0, .ref p0, .ref t0])), (k0, .inr (1, [.int (nI es.length), .ref kf, .ref ko, .ref ka, .ref kb, .ref kt, .ref kl, .ref kp])), (ko, .inl (ty.1, 2000, .inl oF)), (ka, .inl (ty.1, 2000, .inl aF)), (kb, .inl (ty.1, 2000, .inl bF)), (kp, .inl (ty.1, 13, .inl pF2)), (oa, .inl (ty.2.1, 1, .inr (.inl (vp_updL fo 0 (Int32.toInt64 (nI n))))))]) rfl dL_parts_8 ?_
    refine g_goto C dL_parts_9 (tgt := 15) (by decide) ?_
    refine g_iconst C dL_parts_15 (v := (nI 0)) (by decide) ?_
    refine hR _ _ _ _ _ _ dL_parts_16 ?_ (by omega) (by omega)
    exact Or.inl ⟨k, n, pF2, hk, rfl, hpr, rfl, rfl⟩

abbrev rm_t_L_write : Room := ({ frames := 33, cells := 1, slots := 6, locals := 945 } : Room)
set_option maxHeartbeats 4000000 in
set_option maxRecDepth 100000 in
theorem t_L_write (l : Launch) (hfl : l.stackTraces = false) (D : va_G) (ty : g_T3) (x0 s0 p0 t0 : Nat) (k0 kf ko ka kb kt kl kp : Nat) (es : List Ent) (fF : Nat → Int64) (oF aF bF tF sF pF : Nat → Int32) (hw : rowOk es fF oF aF bF sF) (hwf : wfE es) (py : Nat) (pb : Nat → Nat) (nv : Nat) (en : Int32)(oa : Nat) (fo : Nat → Int64) : g_U l yL_write wsL_write rm_t_L_write D ty g_XT [.ref x0, .int en, .ref oa] [(x0, .inr (4, [.ref s0, .ref k0, .ref p0, .ref t0])), (p0, .inr (0, [.int (nI nv), .ref py])), (py, .inl (ty.1, 30, .inl (zN pb))), (k0, .inr (1, [.int (nI es.length), .ref kf, .ref ko, .ref ka, .ref kb, .ref kt, .ref kl, .ref kp])), (ko, .inl (ty.1, 2000, .inl oF)), (ka, .inl (ty.1, 2000, .inl aF)), (kb, .inl (ty.1, 2000, .inl bF)), (oa, .inl (ty.2.1, 1, .inr (.inl fo)))] 1 6 (g_ui (fun r w => (∃ k, k < es.length ∧ en = nI k ∧ r = nI 0 ∧ w = [(x0, .inr (4, [.ref s0, .ref k0, .ref p0, .ref t0])), (p0, .inr (0, [.int (nI ((fmE es 7 k).length)), .ref py])), (py, .inl (ty.1, 30, .inl (zN (apL pb 0 (fmE es 7 k))))), (k0, .inr (1, [.int (nI es.length), .ref kf, .ref ko, .ref ka, .ref kb, .ref kt, .ref kl, .ref kp])), (ko, .inl (ty.1, 2000, .inl oF)), (ka, .inl (ty.1, 2000, .inl aF)), (kb, .inl (ty.1, 2000, .inl bF)), (oa, .inl (ty.2.1, 1, .inr (.inl (vp_updL fo 0 (Int32.toInt64 (nI (fmE es 7 k).length))))))]) ∨ ((en.toInt < 0 ∨ (es.length : Int) ≤ en.toInt) ∧ r = nI 1 ∧ w = [(x0, .inr (4, [.ref s0, .ref k0, .ref p0, .ref t0])), (p0, .inr (0, [.int (nI nv), .ref py])), (py, .inl (ty.1, 30, .inl (zN pb))), (k0, .inr (1, [.int (nI es.length), .ref kf, .ref ko, .ref ka, .ref kb, .ref kt, .ref kl, .ref kp])), (ko, .inl (ty.1, 2000, .inl oF)), (ka, .inl (ty.1, 2000, .inl aF)), (kb, .inl (ty.1, 2000, .inl bF)), (oa, .inl (ty.2.1, 1, .inr (.inl fo)))]))) := by
  refine g_ofWi (hh := [(0, 9, 12, 13)]) (cc := cL_write) (nL := 4) (own := RL) (by decide) rfl rfl g_XT_ok (Nat.le_of_ble_eq_true rfl) ?_
  intro p e s m args below meth c Q A C hA hX htab hR
  refine g_lv (lv' := [(0, .ref x0), (1, .int en), (2, .ref oa)]) [0, 1, 2] rfl ?_
  refine g_aload_n C dL_write_0 2 rfl rfl ?_
  refine g_iconst C dL_write_1 (v := (nI 0)) (by decide) ?_
  refine g_aload_n C dL_write_2 0 rfl rfl ?_
  refine g_iload_n C dL_write_3 1 rfl rfl ?_
  refine g_callTV C hX (t_X5_write l hfl D ty x0 s0 p0 t0 k0 kf ko ka kb kt kl kp es fF oF aF bF tF sF pF hw hwf py pb nv en) rfl gL_write_X5_write 1 (by decide +kernel) rfl ⟨rfl, rfl⟩ ⟨Nat.le_of_ble_eq_true rfl, Nat.le_of_ble_eq_true rfl⟩ (rest := [.int (nI 0), .ref oa]) (q0 := 0) rfl rfl hA [0, 1, 2, 3, 4, 5, 6] [7] rfl rfl rfl (wr := [(oa, .inl (ty.2.1, 1, .inr (.inl fo)))]) rfl rfl rfl (Nat.le_of_ble_eq_true rfl) dL_write_4 ⟨Nat.le_of_ble_eq_true rfl, Nat.le_of_ble_eq_true rfl⟩ rfl ?_ (g_kui (fun r w hr => ?_))
  · intro E q9 hE
    obtain ⟨rfl, hq⟩ := hE
    · refine ⟨tableOf [], ⟨0, 9, 12, 13⟩, tableOf [], x_IO, htab, (fun z hz => nomatch hz), rfl, by decide, C.2.2.2.2.1 _ (List.mem_of_getElem? (i := 1) rfl), va_Nw.use rfl (hX.2.2.1 0 (by decide)), ?_⟩
      refine g_ws (ws' := [(x0, .inr (4, [.ref s0, .ref k0, .ref p0, .ref t0])), (p0, .inr (0, [.int (nI nv), .ref py])), (py, .inl (ty.1, 30, .inl (zN pb))), (k0, .inr (1, [.int (nI es.length), .ref kf, .ref ko, .ref ka, .ref kb, .ref kt, .ref kl, .ref kp])), (ko, .inl (ty.1, 2000, .inl oF)), (ka, .inl (ty.1, 2000, .inl aF)), (kb, .inl (ty.1, 2000, .inl bF)), (oa, .inl (ty.2.1, 1, .inr (.inl fo)))]) [1, 2, 3, 4, 5, 6, 7, 0] rfl rfl rfl ?_
      refine g_astore_n C dL_write_12 rfl (by decide) (lv' := [(3, .ref q9), (0, .ref x0), (1, .int en), (2, .ref oa)]) rfl ?_
      refine g_iconst C dL_write_13 (v := (nI 1)) (by decide) ?_
      refine hR _ _ _ _ _ _ dL_write_14 ?_ (by omega) (by omega)
      exact Or.inr ⟨hq, rfl, rfl⟩
  · skip
    obtain ⟨k, hk, rfl, rfl, rfl⟩ := hr
    refine g_ws (ws' := [(x0, .inr (4, [.ref s0, .ref k0, .ref p0, .ref t0])), (p0, .inr (0, [.int (nI ((fmE es 7 k).length)), .ref py])), (py, .inl (ty.1, 30, .inl (zN (apL pb 0 (fmE es 7 k))))), (k0, .inr (1, [.int (nI es.length), .ref kf, .ref ko, .ref ka, .ref kb, .ref kt, .ref kl, .ref kp])), (ko, .inl (ty.1, 2000, .inl oF)), (ka, .inl (ty.1, 2000, .inl aF)), (kb, .inl (ty.1, 2000, .inl bF)), (oa, .inl (ty.2.1, 1, .inr (.inl fo)))]) [1, 2, 3, 4, 5, 6, 7, 0] rfl rfl rfl ?_
    refine g_i2l C dL_write_7 (v := (Int32.toInt64 (nI (fmE es 7 k).length))) rfl ?_
    refine g_last C 7 rfl (by omega) (by omega) (f' := vp_updL fo 0 (Int32.toInt64 (nI (fmE es 7 k).length))) rfl (ws' := [(x0, .inr (4, [.ref s0, .ref k0, .ref p0, .ref t0])), (p0, .inr (0, [.int (nI ((fmE es 7 k).length)), .ref py])), (py, .inl (ty.1, 30, .inl (zN (apL pb 0 (fmE es 7 k))))), (k0, .inr (1, [.int (nI es.length), .ref kf, .ref ko, .ref ka, .ref kb, .ref kt, .ref kl, .ref kp])), (ko, .inl (ty.1, 2000, .inl oF)), (ka, .inl (ty.1, 2000, .inl aF)), (kb, .inl (ty.1, 2000, .inl bF)), (oa, .inl (ty.2.1, 1, .inr (.inl (vp_updL fo 0 (Int32.toInt64 (nI (fmE es 7 k).length))))))]) rfl dL_write_8 ?_
    refine g_goto C dL_write_9 (tgt := 15) (by decide) ?_
    refine g_iconst C dL_write_15 (v := (nI 0)) (by decide) ?_
    refine hR _ _ _ _ _ _ dL_write_16 ?_ (by omega) (by omega)
    exact Or.inl ⟨k, hk, rfl, rfl, rfl⟩

abbrev rm_t_L_byteAt : Room := ({ frames := 7, cells := 1, slots := 6, locals := 103 } : Room)
set_option maxHeartbeats 4000000 in
set_option maxRecDepth 100000 in
theorem t_L_byteAt (l : Launch) (hfl : l.stackTraces = false) (D : va_G) (ty : g_T3) (x0 s0 k0 t0 : Nat) (p0 py : Nat) (pb : Nat → Nat) (nv : Nat) (hn : nv ≤ 30) (o : Int32)(oa : Nat) (fo : Nat → Int64) : g_U l yL_byteAt wsL_byteAt rm_t_L_byteAt D ty g_XT [.ref x0, .int o, .ref oa] [(x0, .inr (4, [.ref s0, .ref k0, .ref p0, .ref t0])), (p0, .inr (0, [.int (nI nv), .ref py])), (py, .inl (ty.1, 30, .inl (zN pb))), (oa, .inl (ty.2.1, 1, .inr (.inl fo)))] 1 6 (g_ui (fun r w => (∃ k, k < nv ∧ o = nI k ∧ r = nI 0 ∧ w = [(x0, .inr (4, [.ref s0, .ref k0, .ref p0, .ref t0])), (p0, .inr (0, [.int (nI nv), .ref py])), (py, .inl (ty.1, 30, .inl (zN pb))), (oa, .inl (ty.2.1, 1, .inr (.inl (vp_updL fo 0 (Int32.toInt64 (nI (pb k)))))))]) ∨ ((o.toInt < 0 ∨ (nv : Int) ≤ o.toInt) ∧ r = nI 1 ∧ w = [(x0, .inr (4, [.ref s0, .ref k0, .ref p0, .ref t0])), (p0, .inr (0, [.int (nI nv), .ref py])), (py, .inl (ty.1, 30, .inl (zN pb))), (oa, .inl (ty.2.1, 1, .inr (.inl fo)))]))) := by
  refine g_ofWi (hh := [(0, 9, 12, 13)]) (cc := cL_byteAt) (nL := 4) (own := RL) (by decide) rfl rfl g_XT_ok (Nat.le_of_ble_eq_true rfl) ?_
  intro p e s m args below meth c Q A C hA hX htab hR
  refine g_lv (lv' := [(0, .ref x0), (1, .int o), (2, .ref oa)]) [0, 1, 2] rfl ?_
  refine g_aload_n C dL_byteAt_0 2 rfl rfl ?_
  refine g_iconst C dL_byteAt_1 (v := (nI 0)) (by decide) ?_
  refine g_aload_n C dL_byteAt_2 0 rfl rfl ?_
  refine g_iload_n C dL_byteAt_3 1 rfl rfl ?_
  refine g_callTV C hX (t_X5_byteAt l hfl D ty x0 s0 k0 t0 p0 py pb nv hn o) rfl gL_byteAt_X5_byteAt 1 (by decide +kernel) rfl ⟨rfl, rfl⟩ ⟨Nat.le_of_ble_eq_true rfl, Nat.le_of_ble_eq_true rfl⟩ (rest := [.int (nI 0), .ref oa]) (q0 := 0) rfl rfl hA [0, 1, 2] [3] rfl rfl rfl (wr := [(oa, .inl (ty.2.1, 1, .inr (.inl fo)))]) rfl rfl rfl (Nat.le_of_ble_eq_true rfl) dL_byteAt_4 ⟨Nat.le_of_ble_eq_true rfl, Nat.le_of_ble_eq_true rfl⟩ rfl ?_ (g_kui (fun r w hr => ?_))
  · intro E q9 hE
    obtain ⟨rfl, hq⟩ := hE
    · refine ⟨tableOf [], ⟨0, 9, 12, 13⟩, tableOf [], x_IO, htab, (fun z hz => nomatch hz), rfl, by decide, C.2.2.2.2.1 _ (List.mem_of_getElem? (i := 1) rfl), va_Nw.use rfl (hX.2.2.1 0 (by decide)), ?_⟩
      refine g_ws (ws' := [(x0, .inr (4, [.ref s0, .ref k0, .ref p0, .ref t0])), (p0, .inr (0, [.int (nI nv), .ref py])), (py, .inl (ty.1, 30, .inl (zN pb))), (oa, .inl (ty.2.1, 1, .inr (.inl fo)))]) [1, 2, 3, 0] rfl rfl rfl ?_
      refine g_astore_n C dL_byteAt_12 rfl (by decide) (lv' := [(3, .ref q9), (0, .ref x0), (1, .int o), (2, .ref oa)]) rfl ?_
      refine g_iconst C dL_byteAt_13 (v := (nI 1)) (by decide) ?_
      refine hR _ _ _ _ _ _ dL_byteAt_14 ?_ (by omega) (by omega)
      exact Or.inr ⟨hq, rfl, rfl⟩
  · skip
    obtain ⟨k, hk, rfl, rfl, rfl⟩ := hr
    refine g_ws (ws' := [(x0, .inr (4, [.ref s0, .ref k0, .ref p0, .ref t0])), (p0, .inr (0, [.int (nI nv), .ref py])), (py, .inl (ty.1, 30, .inl (zN pb))), (oa, .inl (ty.2.1, 1, .inr (.inl fo)))]) [1, 2, 3, 0] rfl rfl rfl ?_
    refine g_i2l C dL_byteAt_7 (v := (Int32.toInt64 (nI (pb k)))) rfl ?_
    refine g_last C 3 rfl (by omega) (by omega) (f' := vp_updL fo 0 (Int32.toInt64 (nI (pb k)))) rfl (ws' := [(x0, .inr (4, [.ref s0, .ref k0, .ref p0, .ref t0])), (p0, .inr (0, [.int (nI nv), .ref py])), (py, .inl (ty.1, 30, .inl (zN pb))), (oa, .inl (ty.2.1, 1, .inr (.inl (vp_updL fo 0 (Int32.toInt64 (nI (pb k)))))))]) rfl dL_byteAt_8 ?_
    refine g_goto C dL_byteAt_9 (tgt := 15) (by decide) ?_
    refine g_iconst C dL_byteAt_15 (v := (nI 0)) (by decide) ?_
    refine hR _ _ _ _ _ _ dL_byteAt_16 ?_ (by omega) (by omega)
    exact Or.inl ⟨k, hk, rfl, rfl, rfl⟩

abbrev rm_t_L_feed : Room := ({ frames := 7, cells := 1, slots := 6, locals := 107 } : Room)
set_option maxHeartbeats 4000000 in
set_option maxRecDepth 100000 in
theorem t_L_feed (l : Launch) (hfl : l.stackTraces = false) (D : va_G) (ty : g_T3) (x0 s0 k0 p0 : Nat) (t0 tz tl : Nat) (lf : Int64) (tb : Nat → Nat) (hb : ∀ i, tb i < 256) (htl : tl ≤ 300) (pl er i1 i2 i3 i4 i5 : Int32)(oa : Nat) (fo : Nat → Int64) : g_U l yL_feed wsL_feed rm_t_L_feed D ty g_XT [.ref x0, .int i1, .int i2, .int i3, .int i4, .int i5, .ref oa] [(x0, .inr (4, [.ref s0, .ref k0, .ref p0, .ref t0])), (t0, .inr (3, [.int (nI tl), .long lf, .ref tz, .int pl, .int er])), (tz, .inl (ty.1, 300, .inl (zN tb))), (oa, .inl (ty.2.1, 1, .inr (.inl fo)))] 1 6 (g_ui (fun r w => (tl + 20 ≤ 300 ∧ r = nI 0 ∧ w = [(x0, .inr (4, [.ref s0, .ref k0, .ref p0, .ref t0])), (t0, .inr (3, [.int (nI (tl + 20)), .long lf, .ref tz, .int pl, .int er])), (tz, .inl (ty.1, 300, .inl (zN (ap4 (ap4 (ap4 (ap4 (ap4 tb tl i1) (tl + 4) i2) (tl + 4 + 4) i3) (tl + 4 + 4 + 4) i4) (tl + 4 + 4 + 4 + 4) i5)))), (oa, .inl (ty.2.1, 1, .inr (.inl (vp_updL fo 0 (Int32.toInt64 (nI (tl + 20)))))))]) ∨ (300 < tl + 20 ∧ r = nI 1 ∧ w = [(x0, .inr (4, [.ref s0, .ref k0, .ref p0, .ref t0])), (t0, .inr (3, [.int (nI tl), .long lf, .ref tz, .int pl, .int er])), (tz, .inl (ty.1, 300, .inl (zN tb))), (oa, .inl (ty.2.1, 1, .inr (.inl fo)))]))) := by
  refine g_ofWi (hh := [(0, 16, 19, 36)]) (cc := cL_feed) (nL := 8) (own := RL) (by decide) rfl rfl g_XT_ok (Nat.le_of_ble_eq_true rfl) ?_
  intro p e s m args below meth c Q A C hA hX htab hR
  refine g_lv (lv' := [(0, .ref x0), (1, .int i1), (2, .int i2), (3, .int i3), (4, .int i4), (5, .int i5), (6, .ref oa)]) [0, 1, 2, 3, 4, 5, 6] rfl ?_
  refine g_aload C dL_feed_0 6 rfl ?_
  refine g_iconst C dL_feed_2 (v := (nI 0)) (by decide) ?_
  refine g_aload_n C dL_feed_3 0 rfl rfl ?_
  refine g_iload_n C dL_feed_4 1 rfl rfl ?_
  refine g_iload_n C dL_feed_5 2 rfl rfl ?_
  refine g_iload_n C dL_feed_6 3 rfl rfl ?_
  refine g_iload C dL_feed_7 4 rfl ?_
  refine g_iload C dL_feed_9 5 rfl ?_
  refine g_callTV C hX (t_X5_feed l hfl D ty x0 s0 k0 p0 t0 tz tl lf tb hb htl pl er i1 i2 i3 i4 i5) rfl gL_feed_X5_feed 5 (by decide +kernel) rfl ⟨rfl, rfl⟩ ⟨Nat.le_of_ble_eq_true rfl, Nat.le_of_ble_eq_true rfl⟩ (rest := [.int (nI 0), .ref oa]) (q0 := 0) rfl rfl hA [0, 1, 2] [3] rfl rfl rfl (wr := [(oa, .inl (ty.2.1, 1, .inr (.inl fo)))]) rfl rfl rfl (Nat.le_of_ble_eq_true rfl) dL_feed_11 ⟨Nat.le_of_ble_eq_true rfl, Nat.le_of_ble_eq_true rfl⟩ rfl ?_ (g_kui (fun r w hr => ?_))
  · intro E q9 hE
    obtain ⟨rfl, hq⟩ := hE
    · refine ⟨tableOf [], ⟨0, 16, 19, 36⟩, tableOf [], x_IS, htab, (fun z hz => nomatch hz), rfl, by decide, C.2.2.2.2.1 _ (List.mem_of_getElem? (i := 1) rfl), va_Nw.use rfl (hX.2.2.1 2 (by decide)), ?_⟩
      refine g_ws (ws' := [(x0, .inr (4, [.ref s0, .ref k0, .ref p0, .ref t0])), (t0, .inr (3, [.int (nI tl), .long lf, .ref tz, .int pl, .int er])), (tz, .inl (ty.1, 300, .inl (zN tb))), (oa, .inl (ty.2.1, 1, .inr (.inl fo)))]) [1, 2, 3, 0] rfl rfl rfl ?_
      refine g_astore C dL_feed_19 (by decide) (lv' := [(7, .ref q9), (0, .ref x0), (1, .int i1), (2, .int i2), (3, .int i3), (4, .int i4), (5, .int i5), (6, .ref oa)]) rfl ?_
      refine g_iconst C dL_feed_21 (v := (nI 1)) (by decide) ?_
      refine hR _ _ _ _ _ _ dL_feed_22 ?_ (by omega) (by omega)
      exact Or.inr ⟨hq, rfl, rfl⟩
  · skip
    obtain ⟨h20, rfl, rfl⟩ := hr
    refine g_ws (ws' := [(x0, .inr (4, [.ref s0, .ref k0, .ref p0, .ref t0])), (t0, .inr (3, [.int (nI (tl + 20)), .long lf, .ref tz, .int pl, .int er])), (tz, .inl (ty.1, 300, .inl (zN (ap4 (ap4 (ap4 (ap4 (ap4 tb tl i1) (tl + 4) i2) (tl + 4 + 4) i3) (tl + 4 + 4 + 4) i4) (tl + 4 + 4 + 4 + 4) i5)))), (oa, .inl (ty.2.1, 1, .inr (.inl fo)))]) [1, 2, 3, 0] rfl rfl rfl ?_
    refine g_i2l C dL_feed_14 (v := (Int32.toInt64 (nI (tl + 20)))) rfl ?_
    refine g_last C 3 rfl (by omega) (by omega) (f' := vp_updL fo 0 (Int32.toInt64 (nI (tl + 20)))) rfl (ws' := [(x0, .inr (4, [.ref s0, .ref k0, .ref p0, .ref t0])), (t0, .inr (3, [.int (nI (tl + 20)), .long lf, .ref tz, .int pl, .int er])), (tz, .inl (ty.1, 300, .inl (zN (ap4 (ap4 (ap4 (ap4 (ap4 tb tl i1) (tl + 4) i2) (tl + 4 + 4) i3) (tl + 4 + 4 + 4) i4) (tl + 4 + 4 + 4 + 4) i5)))), (oa, .inl (ty.2.1, 1, .inr (.inl (vp_updL fo 0 (Int32.toInt64 (nI (tl + 20)))))))]) rfl dL_feed_15 ?_
    refine g_goto C dL_feed_16 (tgt := 23) (by decide) ?_
    refine g_iconst C dL_feed_23 (v := (nI 0)) (by decide) ?_
    refine hR _ _ _ _ _ _ dL_feed_24 ?_ (by omega) (by omega)
    exact Or.inl ⟨h20, rfl, rfl⟩

abbrev rm_t_L_trim : Room := ({ frames := 7, cells := 1, slots := 6, locals := 103 } : Room)
set_option maxHeartbeats 4000000 in
set_option maxRecDepth 100000 in
theorem t_L_trim (l : Launch) (hfl : l.stackTraces = false) (D : va_G) (ty : g_T3) (x0 s0 k0 p0 : Nat) (t0 tz tl : Nat) (lf : Int64) (tb : Nat → Nat) (hb : ∀ i, tb i < 256) (htl : tl ≤ 300) (pl er : Int32) (o : Int32)(oa : Nat) (fo : Nat → Int64) : g_U l yL_trim wsL_trim rm_t_L_trim D ty g_XT [.ref x0, .int o, .ref oa] [(x0, .inr (4, [.ref s0, .ref k0, .ref p0, .ref t0])), (t0, .inr (3, [.int (nI tl), .long lf, .ref tz, .int pl, .int er])), (tz, .inl (ty.1, 300, .inl (zN tb))), (oa, .inl (ty.2.1, 1, .inr (.inl fo)))] 1 6 (g_ui (fun r w => (∃ k, k ≤ tl ∧ o = nI k ∧ r = nI 0 ∧ w = [(x0, .inr (4, [.ref s0, .ref k0, .ref p0, .ref t0])), (t0, .inr (3, [.int (nI k), .long lf, .ref tz, .int pl, .int er])), (tz, .inl (ty.1, 300, .inl (zN tb))), (oa, .inl (ty.2.1, 1, .inr (.inl (vp_updL fo 0 (Int32.toInt64 (nI k))))))]) ∨ ((o.toInt < 0 ∨ (tl : Int) < o.toInt) ∧ r = nI 1 ∧ w = [(x0, .inr (4, [.ref s0, .ref k0, .ref p0, .ref t0])), (t0, .inr (3, [.int (nI tl), .long lf, .ref tz, .int pl, .int er])), (tz, .inl (ty.1, 300, .inl (zN tb))), (oa, .inl (ty.2.1, 1, .inr (.inl fo)))]))) := by
  refine g_ofWi (hh := [(0, 9, 12, 19)]) (cc := cL_trim) (nL := 4) (own := RL) (by decide) rfl rfl g_XT_ok (Nat.le_of_ble_eq_true rfl) ?_
  intro p e s m args below meth c Q A C hA hX htab hR
  refine g_lv (lv' := [(0, .ref x0), (1, .int o), (2, .ref oa)]) [0, 1, 2] rfl ?_
  refine g_aload_n C dL_trim_0 2 rfl rfl ?_
  refine g_iconst C dL_trim_1 (v := (nI 0)) (by decide) ?_
  refine g_aload_n C dL_trim_2 0 rfl rfl ?_
  refine g_iload_n C dL_trim_3 1 rfl rfl ?_
  refine g_callTV C hX (t_X5_trim l hfl D ty x0 s0 k0 p0 t0 tz tl lf tb hb htl pl er o) rfl gL_trim_X5_trim 1 (by decide +kernel) rfl ⟨rfl, rfl⟩ ⟨Nat.le_of_ble_eq_true rfl, Nat.le_of_ble_eq_true rfl⟩ (rest := [.int (nI 0), .ref oa]) (q0 := 0) rfl rfl hA [0, 1, 2] [3] rfl rfl rfl (wr := [(oa, .inl (ty.2.1, 1, .inr (.inl fo)))]) rfl rfl rfl (Nat.le_of_ble_eq_true rfl) dL_trim_4 ⟨Nat.le_of_ble_eq_true rfl, Nat.le_of_ble_eq_true rfl⟩ rfl ?_ (g_kui (fun r w hr => ?_))
  · intro E q9 hE
    obtain ⟨rfl, hq⟩ := hE
    · refine ⟨tableOf [], ⟨0, 9, 12, 19⟩, tableOf [], x_IA, htab, (fun z hz => nomatch hz), rfl, by decide, C.2.2.2.2.1 _ (List.mem_of_getElem? (i := 1) rfl), va_Nw.use rfl (hX.2.2.1 1 (by decide)), ?_⟩
      refine g_ws (ws' := [(x0, .inr (4, [.ref s0, .ref k0, .ref p0, .ref t0])), (t0, .inr (3, [.int (nI tl), .long lf, .ref tz, .int pl, .int er])), (tz, .inl (ty.1, 300, .inl (zN tb))), (oa, .inl (ty.2.1, 1, .inr (.inl fo)))]) [1, 2, 3, 0] rfl rfl rfl ?_
      refine g_astore_n C dL_trim_12 rfl (by decide) (lv' := [(3, .ref q9), (0, .ref x0), (1, .int o), (2, .ref oa)]) rfl ?_
      refine g_iconst C dL_trim_13 (v := (nI 1)) (by decide) ?_
      refine hR _ _ _ _ _ _ dL_trim_14 ?_ (by omega) (by omega)
      exact Or.inr ⟨hq, rfl, rfl⟩
  · skip
    obtain ⟨k, hk, rfl, rfl, rfl⟩ := hr
    refine g_ws (ws' := [(x0, .inr (4, [.ref s0, .ref k0, .ref p0, .ref t0])), (t0, .inr (3, [.int (nI k), .long lf, .ref tz, .int pl, .int er])), (tz, .inl (ty.1, 300, .inl (zN tb))), (oa, .inl (ty.2.1, 1, .inr (.inl fo)))]) [1, 2, 3, 0] rfl rfl rfl ?_
    refine g_i2l C dL_trim_7 (v := (Int32.toInt64 (nI k))) rfl ?_
    refine g_last C 3 rfl (by omega) (by omega) (f' := vp_updL fo 0 (Int32.toInt64 (nI k))) rfl (ws' := [(x0, .inr (4, [.ref s0, .ref k0, .ref p0, .ref t0])), (t0, .inr (3, [.int (nI k), .long lf, .ref tz, .int pl, .int er])), (tz, .inl (ty.1, 300, .inl (zN tb))), (oa, .inl (ty.2.1, 1, .inr (.inl (vp_updL fo 0 (Int32.toInt64 (nI k))))))]) rfl dL_trim_8 ?_
    refine g_goto C dL_trim_9 (tgt := 15) (by decide) ?_
    refine g_iconst C dL_trim_15 (v := (nI 0)) (by decide) ?_
    refine hR _ _ _ _ _ _ dL_trim_16 ?_ (by omega) (by omega)
    exact Or.inl ⟨k, hk, rfl, rfl, rfl⟩


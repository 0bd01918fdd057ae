abbrev rm_t_X5_meanCost : Room := ({ frames := 2, cells := 0, slots := 0, locals := 43 } : Room)
set_option maxHeartbeats 4000000 in
set_option maxRecDepth 100000 in
theorem t_X5_meanCost (l : Launch) (D : va_G) (ty : g_T3) (x0 s0 p0 t0 : Nat) (k0 kf ko ka kb kt kl kp : Nat) (n : Nat) (hn : n ≤ 2000) (tF : Nat → Int32) (st : Nat → Nat) (ht : ∀ j, j < 8 → tF j = nI (st j)) (hm : ∀ i j, i ≤ j → j ≤ 7 → st i ≤ st j) (hs72 : st 7 ≤ 2000)  : g_P l yX5_meanCost wsX5_meanCost rm_t_X5_meanCost D ty g_X0 [.ref x0] [(x0, .inr (4, [.ref s0, .ref k0, .ref p0, .ref t0])), (k0, .inr (1, [.int (nI n), .ref kf, .ref ko, .ref ka, .ref kb, .ref kt, .ref kl, .ref kp])), (kt, .inl (ty.1, 8, .inl tF))] (g_pd (fun r => r = mnD (suT st 7) n)) := by
  refine g_ofPd (cc := cX5_meanCost) (nL := 1) (own := RX5) (by decide) rfl rfl g_X0_ok (Nat.le_of_ble_eq_true rfl) ?_
  intro p e s m args below meth c Q C hX hR
  refine g_lv (lv' := [(0, .ref x0)]) [0] rfl ?_
  refine g_aload_n C dX5_meanCost_0 0 rfl rfl ?_
  refine g_get C 0 rfl rfl 1 (by decide) (fun _ h => (List.mem_cons_of_mem _ (List.mem_append_left _ (List.mem_append_right _ h)))) 1 rfl rfl rfl dX5_meanCost_1 ?_
  refine g_get C 1 rfl rfl 0 (by decide) (fun _ h => (List.mem_cons_of_mem _ (List.mem_append_right _ h))) 2 rfl rfl rfl dX5_meanCost_4 ?_
  refine g_if_neN C dX5_meanCost_7 (tgt := 14) (by decide) (by omega) (fun h7 => ?_) (fun h7 => ?_)
  · skip
    have hne : ¬ n = 0 := by omega
    refine g_aload_n C dX5_meanCost_14 0 rfl rfl ?_
    refine g_get C 0 rfl rfl 1 (by decide) (fun _ h => (List.mem_cons_of_mem _ (List.mem_append_left _ (List.mem_append_right _ h)))) 1 rfl rfl rfl dX5_meanCost_15 ?_
    refine g_callPV C ⟨g_X0_ok, trivial⟩ (t_X2_sumOfCosts l D ty k0 kf ko ka kb kt kl kp n hn tF st ht) rfl gX5_meanCost_X2_sumOfCosts 0 (by decide +kernel) rfl ⟨rfl, rfl⟩ ⟨Nat.le_of_ble_eq_true rfl, Nat.le_of_ble_eq_true rfl⟩ (rest := []) (q0 := 1) rfl rfl [1, 2] rfl (Nat.le_of_ble_eq_true rfl) dX5_meanCost_18 ⟨Nat.le_of_ble_eq_true rfl, Nat.le_of_ble_eq_true rfl⟩ rfl (g_ki (fun r hr => ?_))
    rw [su_T hm hs72 7 (Nat.le_refl _)] at hr
    subst hr
    have hs7 := suT_7 hm hs72
    refine g_i2d C dX5_meanCost_21 ?_
    refine g_aload_n C dX5_meanCost_22 0 rfl rfl ?_
    refine g_get C 0 rfl rfl 1 (by decide) (fun _ h => (List.mem_cons_of_mem _ (List.mem_append_left _ (List.mem_append_right _ h)))) 1 rfl rfl rfl dX5_meanCost_23 ?_
    refine g_get C 1 rfl rfl 0 (by decide) (fun _ h => (List.mem_cons_of_mem _ (List.mem_append_right _ h))) 2 rfl rfl rfl dX5_meanCost_26 ?_
    refine g_i2d C dX5_meanCost_29 ?_
    refine g_ddiv C dX5_meanCost_30 (mn_ok (by omega) (by omega) hne) ?_
    refine hR _ _ _ _ dX5_meanCost_31 ?_
    first | exact (if_neg hne).symm | exact (if_pos hz).symm
  · skip
    have hz : n = 0 := by omega
    refine g_dconst0 C dX5_meanCost_10 ?_
    refine g_goto C dX5_meanCost_11 (tgt := 31) (by decide) ?_
    refine hR _ _ _ _ dX5_meanCost_31 ?_
    first | exact (if_neg hne).symm | exact (if_pos hz).symm

abbrev rm_t_X5_read : Room := ({ frames := 71, cells := 0, slots := 0, locals := 2278 } : Room)
set_option maxHeartbeats 4000000 in
set_option maxRecDepth 100000 in
theorem t_X5_read (l : Launch) (D : va_G) (ty : g_T3) (x0 s0 k0 p0 : Nat) (t0 tz tl : Nat) (lf : Int64) (tb : Nat → Nat) (hb : ∀ i, tb i < 256) (htl : tl ≤ 300) (pl er : Int32) : g_U l yX5_read wsX5_read rm_t_X5_read D ty g_XN [.ref x0] [(x0, .inr (4, [.ref s0, .ref k0, .ref p0, .ref t0])), (t0, .inr (3, [.int (nI tl), .long lf, .ref tz, .int pl, .int er])), (tz, .inl (ty.1, 300, .inl (zN tb)))] 0 0 (g_ui (fun r w => ∃ pl2 er2 lf2, rdR tb tl lf r lf2 ∧ w = [(x0, .inr (4, [.ref s0, .ref k0, .ref p0, .ref t0])), (t0, .inr (3, [.int (nI 0), .long lf2, .ref tz, .int pl2, .int er2])), (tz, .inl (ty.1, 300, .inl (zN tb)))])) := by
  refine g_ofUi (cc := cX5_read) (nL := 1) (own := RX5) (by decide) rfl rfl g_XN_ok (Nat.le_of_ble_eq_true rfl) ?_
  intro p e s m args below meth c Q A C hA hX hin hR
  refine g_lv (lv' := [(0, .ref x0)]) [0] rfl ?_
  refine g_aload_n C dX5_read_0 0 rfl rfl ?_
  refine g_get C 0 rfl rfl 3 (by decide) (fun _ h => (List.mem_cons_of_mem _ (List.mem_append_left _ (List.mem_append_right _ h)))) 1 rfl rfl rfl dX5_read_1 ?_
  refine g_callUV C hX (t_X4_takeFormula l D ty t0 tz tl lf tb hb htl pl er) rfl gX5_read_X4_takeFormula 0 (by decide +kernel) rfl ⟨rfl, rfl⟩ ⟨Nat.le_of_ble_eq_true rfl, Nat.le_of_ble_eq_true rfl⟩ (rest := []) (q0 := 1) rfl rfl hA [1, 2] [0] rfl rfl rfl (wr := [(x0, .inr (4, [.ref s0, .ref k0, .ref p0, .ref t0]))]) rfl rfl rfl (Nat.le_of_ble_eq_true rfl) dX5_read_4 ⟨Nat.le_of_ble_eq_true rfl, Nat.le_of_ble_eq_true rfl⟩ rfl (g_kui (fun r4 w hr => ?_))
  obtain ⟨pl4, er4, lf4, rfl, hR4⟩ := rd_u (fun pl2 er2 lf2 => [(t0, .inr (3, [.int (nI 0), .long lf2, .ref tz, .int pl2, .int er2])), (tz, .inl (ty.1, 300, .inl (zN tb)))]) hr
  refine g_ws (ws' := [(x0, .inr (4, [.ref s0, .ref k0, .ref p0, .ref t0])), (t0, .inr (3, [.int (nI 0), .long lf4, .ref tz, .int pl4, .int er4])), (tz, .inl (ty.1, 300, .inl (zN tb)))]) [0, 1, 2] rfl rfl rfl ?_
  refine hR _ _ _ _ _ _ dX5_read_7 ?_ (by omega) (by omega)
  exact ⟨_, _, _, hR4, rfl⟩


abbrev rm_t_X5_meanCost : Room := ({ frames := 2, cells := 0, slots := 0, locals := 43 } : Room)
set_option maxHeartbeats 4000000 in
set_option maxRecDepth 100000 in
theorem t_X5_meanCost (l : Launch) (D : va_G) (ty : g_T3) (x0 s0 p0 t0 : Nat) (k0 kf ko ka kb kt kl kp : Nat) (n : Nat) (hn : n ≤ 2000) (tF : Nat → Int32) (st : Nat → Nat) (ht : ∀ j, j < 8 → tF j = nI (st j)) (hm : ∀ i j, i ≤ j → j ≤ 7 → st i ≤ st j) (hs72 : st 7 ≤ 2000)  : g_P l yX5_meanCost wsX5_meanCost rm_t_X5_meanCost D ty g_X0 [.ref x0] [(x0, .inr (4, [.ref s0, .ref k0, .ref p0, .ref t0])), (k0, .inr (1, [.int (nI n), .ref kf, .ref ko, .ref ka, .ref kb, .ref kt, .ref kl, .ref kp])), (kt, .inl (ty.1, 8, .inl tF))] (g_pd (fun r => r = mnD (suT st 7) n)) := by
  refine g_ofPd (cc := cX5_meanCost) (nL := 1) (own := RX5) (by decide) rfl rfl g_X0_ok (Nat.le_of_ble_eq_true rfl) ?_
  intro p e s m args below meth c Q C hX hR
  refine g_lv (lv' := [(0, .ref x0)]) [0] rfl ?_
  refine g_aload_n C dX5_meanCost_0 0 rfl rfl ?_
  refine g_get C 0 rfl rfl 1 (by decide) (fun _ h => (List.mem_cons_of_mem _ (List.mem_append_left _ (List.mem_append_right _ h)))) 1 rfl rfl rfl dX5_meanCost_1 ?_
  refine g_get C 1 rfl rfl 0 (by decide) (fun _ h => (List.mem_cons_of_mem _ (List.mem_append_right _ h))) 2 rfl rfl rfl dX5_meanCost_4 ?_
  refine g_if_neN C dX5_meanCost_7 (tgt := 14) (by decide) (by omega) (fun h7 => ?_) (fun h7 => ?_)
  · skip
    have hne : ¬ n = 0 := by omega
    refine g_aload_n C dX5_meanCost_14 0 rfl rfl ?_
    refine g_get C 0 rfl rfl 1 (by decide) (fun _ h => (List.mem_cons_of_mem _ (List.mem_append_left _ (List.mem_append_right _ h)))) 1 rfl rfl rfl dX5_meanCost_15 ?_
    refine g_callPV C ⟨g_X0_ok, trivial⟩ (t_X2_sumOfCosts l D ty k0 kf ko ka kb kt kl kp n hn tF st ht) rfl gX5_meanCost_X2_sumOfCosts 0 (by decide +kernel) rfl ⟨rfl, rfl⟩ ⟨Nat.le_of_ble_eq_true rfl, Nat.le_of_ble_eq_true rfl⟩ (rest := []) (q0 := 1) rfl rfl [1, 2] rfl (Nat.le_of_ble_eq_true rfl) dX5_meanCost_18 ⟨Nat.le_of_ble_eq_true rfl, Nat.le_of_ble_eq_true rfl⟩ rfl (g_ki (fun r hr => ?_))
    rw [su_T hm hs72 7 (Nat.le_refl _)] at hr
    subst hr
    have hs7 := suT_7 hm hs72
    refine g_i2d C dX5_meanCost_21 ?_
    refine g_aload_n C dX5_meanCost_22 0 rfl rfl ?_
    refine g_get C 0 rfl rfl 1 (by decide) (fun _ h => (List.mem_cons_of_mem _ (List.mem_append_left _ (List.mem_append_right _ h)))) 1 rfl rfl rfl dX5_meanCost_23 ?_
    refine g_get C 1 rfl rfl 0 (by decide) (fun _ h => (List.mem_cons_of_mem _ (List.mem_append_right _ h))) 2 rfl rfl rfl dX5_meanCost_26 ?_
    refine g_i2d C dX5_meanCost_29 ?_
    refine g_ddiv C dX5_meanCost_30 (mn_ok (by omega) (by omega) hne) ?_
    refine hR _ _ _ _ dX5_meanCost_31 ?_
    first | exact (if_neg hne).symm | exact (if_pos hz).symm
  · skip
    have hz : n = 0 := by omega
    refine g_dconst0 C dX5_meanCost_10 ?_
    refine g_goto C dX5_meanCost_11 (tgt := 31) (by decide) ?_
    refine hR _ _ _ _ dX5_meanCost_31 ?_
    first | exact (if_neg hne).symm | exact (if_pos hz).symm



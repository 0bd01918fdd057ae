abbrev rm_t_L_below : Room := ({ frames := 0, cells := 0, slots := 0, locals := 0 } : Room)
set_option maxHeartbeats 4000000 in
set_option maxRecDepth 100000 in
theorem t_L_below (l : Launch) (D : va_G) (ty : g_T3) (v : Int32) (n : Nat) (hn : 0 < n) (hn2 : n < 1000) : g_P l yL_below wsL_below rm_t_L_below D ty g_X0 [.int v, .int (nI n)] [] (g_pi (fun r => ∃ q, q < n ∧ r = nI q)) := by
  refine g_ofPi (cc := cL_below) (nL := 2) (own := RL) (by decide) rfl rfl g_X0_ok (Nat.le_of_ble_eq_true rfl) ?_
  intro p e s m args below meth c Q C hX hR
  refine g_lv (lv' := [(0, .int v), (1, .int (nI n))]) [0, 1] rfl ?_
  obtain ⟨u, hu, hvu⟩ := and_max v
  refine g_iload_n C dL_below_0 0 rfl rfl ?_
  refine g_ldc C (v := (nI 2147483647)) 1 rfl dL_below_1 ?_
  refine g_iand C dL_below_3 (v := (nI u)) hvu ?_
  refine g_iload_n C dL_below_4 1 rfl rfl ?_
  refine g_irem C dL_below_5 (fun z => by have z2 := nI_ij (a := n) (b := 0) (by omega) (by omega) (z.trans nI_0.symm); omega) (v := (nI (u % n))) (pk_rem (by omega) (by omega) (by omega)) ?_
  refine hR _ _ _ _ dL_below_6 ?_
  exact ⟨u % n, Nat.mod_lt _ hn, rfl⟩

abbrev rm_t_L_cell : Room := ({ frames := 0, cells := 0, slots := 0, locals := 0 } : Room)
set_option maxHeartbeats 4000000 in
set_option maxRecDepth 100000 in
theorem t_L_cell (l : Launch) (D : va_G) (ty : g_T3) (b L : Nat) (xs : Nat → Int32) (hL : L ≤ 260) (k : Nat) (hk : k < 1000) : g_P l yL_cell wsL_cell rm_t_L_cell D ty (g_XS b L xs) [.ref b, .int (nI k)] [] (g_pi (fun r => True)) := by
  refine g_ofPi (cc := cL_cell) (nL := 2) (own := RL) (by decide) rfl rfl (g_XS_ok b L xs) (Nat.le_of_ble_eq_true rfl) ?_
  intro p e s m args below meth c Q C hX hR
  refine g_lv (lv' := [(0, .ref b), (1, .int (nI k))]) [0, 1] rfl ?_
  have hsx := hX.2.1
  have hbl := hX.2.2.1
  have hbA := hX.2.2.2
  refine g_iload_n C dL_cell_0 1 rfl rfl ?_
  refine g_aload_n C dL_cell_1 0 rfl rfl ?_
  refine g_slen C hsx hbl hbA dL_cell_2 ?_
  refine g_icmp_geN C dL_cell_3 (tgt := 12) (by decide) (by omega) (by omega) (fun h3 => ?_) (fun h3 => ?_)
  · skip
    refine g_ldc C (v := (nI 790386105)) 1 rfl dL_cell_12 ?_
    refine g_iload_n C dL_cell_14 1 rfl rfl ?_
    refine g_iconst C dL_cell_15 (v := (nI 3)) (by decide) ?_
    refine g_iadd C dL_cell_16 (v := (nI (k + 3))) (nI_add _ _) ?_
    refine g_imul C dL_cell_17 (v := (nI 790386105 * nI (k + 3))) rfl ?_
    exact hR _ _ _ _ dL_cell_18 (trivial)
  · skip
    refine g_aload_n C dL_cell_6 0 rfl rfl ?_
    refine g_iload_n C dL_cell_7 1 rfl rfl ?_
    refine g_sld C hsx hbl hbA hL (i := k) (by omega) dL_cell_8 ?_
    refine g_goto C dL_cell_9 (tgt := 18) (by decide) ?_
    exact hR _ _ _ _ dL_cell_18 (trivial)

abbrev rm_t_L_chosen : Room := ({ frames := 1, cells := 0, slots := 0, locals := 21 } : Room)
set_option maxHeartbeats 4000000 in
set_option maxRecDepth 100000 in
theorem t_L_chosen (l : Launch) (D : va_G) (ty : g_T3) (b L : Nat) (xs : Nat → Int32) (hL : L ≤ 260) (k : Nat) (hk : k < 900) : g_P l yL_chosen wsL_chosen rm_t_L_chosen D ty (g_XS b L xs) [.ref b, .int (nI k)] [] (g_pl (fun r => True)) := by
  refine g_ofPl (cc := cL_chosen) (nL := 5) (own := RL) (by decide) rfl rfl (g_XS_ok b L xs) (Nat.le_of_ble_eq_true rfl) ?_
  intro p e s m args below meth c Q C hX hR
  refine g_lv (lv' := [(0, .ref b), (1, .int (nI k))]) [0, 1] rfl ?_
  have hsx := hX.2.1
  have hbl := hX.2.2.1
  have hbA := hX.2.2.2
  refine g_lconst C dL_chosen_0 (v := 0) (by decide) ?_
  refine g_lstore_n C dL_chosen_1 rfl (by decide) (lv' := [(2, .long 0), (0, .ref b), (1, .int (nI k))]) rfl ?_
  refine g_iconst C dL_chosen_2 (v := (nI 0)) (by decide) ?_
  refine g_istore C dL_chosen_3 (by decide) (lv' := [(4, .int (nI 0)), (2, .long 0), (0, .ref b), (1, .int (nI k))]) rfl ?_
  have L5 : ∀ (n9 : Nat) (i : Nat) (f : Int64), 16 - i < n9 → (i ≤ 16) → gG (g_IP D s []) p l e rm_t_L_chosen s m args below meth c Q 5 0 0 5 [(4, .int (nI i)), (2, .long f), (0, .ref b), (1, .int (nI k))] [] [] := by
    intro n9
    induction n9 with
    | zero => intro i f hn; exact absurd hn (Nat.not_lt_zero _)
    | succ n9 ih5 =>
      intro i f hn5 hi
      refine g_iload C dL_chosen_5 0 rfl ?_
      refine g_bipush C dL_chosen_7 (v := (nI 16)) (by decide) ?_
      refine g_icmp_geN C dL_chosen_9 (tgt := 56) (by decide) (by omega) (by omega) (fun h9 => ?_) (fun h9 => ?_)
      · skip
        refine g_lload_n C dL_chosen_56 1 rfl rfl ?_
        exact hR _ _ _ _ dL_chosen_57 (trivial)
      · skip
        refine g_lload_n C dL_chosen_12 1 rfl rfl ?_
        refine g_aload_n C dL_chosen_13 2 rfl rfl ?_
        refine g_iload_n C dL_chosen_14 3 rfl rfl ?_
        refine g_iload C dL_chosen_15 0 rfl ?_
        refine g_iconst C dL_chosen_17 (v := (nI 5)) (by decide) ?_
        refine g_irem C dL_chosen_18 (by decide) (v := (nI (i % 5))) (pk_rem (by omega) (by omega) (by omega)) ?_
        refine g_iadd C dL_chosen_19 (v := (nI (k + (i % 5)))) (nI_add _ _) ?_
        refine g_callPS C hX (t_L_cell l D ty b L xs hL (k + (i % 5)) (by omega)) rfl gL_chosen_L_cell 2 (by decide +kernel) rfl ⟨rfl, rfl⟩ ⟨Nat.le_of_ble_eq_true rfl, Nat.le_of_ble_eq_true rfl⟩ (rest := [.long f]) [] rfl (Nat.le_of_ble_eq_true rfl) dL_chosen_20 ⟨Nat.le_of_ble_eq_true rfl, Nat.le_of_ble_eq_true rfl⟩ rfl (g_ki (fun r20 hr20 => ?_))
        clear hr20
        refine g_iload C dL_chosen_23 0 rfl ?_
        refine g_iconst C dL_chosen_25 (v := (nI 5)) (by decide) ?_
        refine g_idiv C dL_chosen_26 (by decide) (v := (nI (i / 5))) (pk_div (by omega) (by omega) (by omega)) ?_
        refine g_iconst C dL_chosen_27 (v := (nI 5)) (by decide) ?_
        refine g_imul C dL_chosen_28 (v := (nI ((i / 5) * 5))) (pk_mul _ _) ?_
        refine g_ishr C dL_chosen_29 (v := (i_shr r20 (nI ((i / 5) * 5)))) rfl ?_
        refine g_iload C dL_chosen_30 0 rfl ?_
        refine g_sipush C dL_chosen_32 (v := (nI 911)) (by decide) ?_
        refine g_imul C dL_chosen_35 (v := (nI (i * 911))) (pk_mul _ _) ?_
        refine g_ixor C dL_chosen_36 (v := ((i_shr r20 (nI ((i / 5) * 5))) ^^^ (nI (i * 911)))) rfl ?_
        refine g_bipush C dL_chosen_37 (v := (nI 16)) (by decide) ?_
        refine g_callPS C ⟨g_X0_ok, trivial⟩ (t_L_below l D ty ((i_shr r20 (nI ((i / 5) * 5))) ^^^ (nI (i * 911))) 16 (by omega) (by omega)) rfl gL_chosen_L_below 2 (by decide +kernel) rfl ⟨rfl, rfl⟩ ⟨Nat.le_of_ble_eq_true rfl, Nat.le_of_ble_eq_true rfl⟩ (rest := [.long f]) [] rfl (Nat.le_of_ble_eq_true rfl) dL_chosen_39 ⟨Nat.le_of_ble_eq_true rfl, Nat.le_of_ble_eq_true rfl⟩ rfl (g_ki (fun r39 hr39 => ?_))
        obtain ⟨q39, hq39, rfl⟩ := hr39
        refine g_i2l C dL_chosen_42 (v := (Int32.toInt64 (nI q39))) rfl ?_
        refine g_iconst C dL_chosen_43 (v := (nI 4)) (by decide) ?_
        refine g_iload C dL_chosen_44 0 rfl ?_
        refine g_imul C dL_chosen_46 (v := (nI (4 * i))) (pk_mul _ _) ?_
        refine g_lshl C dL_chosen_47 (v := (j_shl (Int32.toInt64 (nI q39)) (nI (4 * i)))) rfl ?_
        refine g_lor C dL_chosen_48 (v := (f ||| (j_shl (Int32.toInt64 (nI q39)) (nI (4 * i))))) rfl ?_
        refine g_lstore_n C dL_chosen_49 rfl (by decide) (lv' := [(2, .long (f ||| (j_shl (Int32.toInt64 (nI q39)) (nI (4 * i))))), (4, .int (nI i)), (0, .ref b), (1, .int (nI k))]) rfl ?_
        refine g_iinc C dL_chosen_50 1 rfl (v := (nI (i + 1))) (nI_1 i) (by decide) (lv' := [(4, .int (nI (i + 1))), (2, .long (f ||| (j_shl (Int32.toInt64 (nI q39)) (nI (4 * i))))), (0, .ref b), (1, .int (nI k))]) rfl ?_
        refine g_goto C dL_chosen_53 (tgt := 5) (by decide) ?_
        exact ih5 (i + 1) (f ||| (j_shl (Int32.toInt64 (nI q39)) (nI (4 * i)))) (by omega) (by omega)
  exact L5 _ 0 0 (Nat.lt_succ_self _) (by omega)


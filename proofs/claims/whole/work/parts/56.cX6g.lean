abbrev rm_t_X6_thrown : Room := ({ frames := 0, cells := 0, slots := 0, locals := 0 } : Room)
set_option maxHeartbeats 4000000 in
set_option maxRecDepth 100000 in
theorem t_X6_thrown (l : Launch) (D : va_G) (ty : g_T3) (n0 np na nc nf nq no nx ny nl nh nb nw nt : Nat) (th cp pl tl av wr : Int32) (rs : Int64) (en : Int32)  : g_P l yX6_thrown wsX6_thrown rm_t_X6_thrown D ty g_X0 [.ref n0] [(n0, .inr (5, [.int th, .ref np, .ref na, .int cp, .ref nc, .int en, .ref nf, .ref nq, .ref no, .ref nx, .ref ny, .ref nl, .ref nh, .ref nb, .ref nw, .int pl, .ref nt, .int tl, .int av, .int wr, .long rs]))] (g_pi (fun r => r = th)) := by
  refine g_ofPi (cc := cX6_thrown) (nL := 1) (own := RX6) (by decide) rfl rfl g_X0_ok (Nat.le_of_ble_eq_true rfl) ?_
  intro p e s m args below meth c Q C hX hR
  refine g_lv (lv' := [(0, .ref n0)]) [0] rfl ?_
  refine g_aload_n C dX6_thrown_0 0 rfl rfl ?_
  refine g_get C 0 rfl rfl 0 (by decide) (fun _ h => (List.mem_cons_of_mem _ (List.mem_append_right _ h))) 1 rfl rfl rfl dX6_thrown_1 ?_
  exact hR _ _ _ _ dX6_thrown_4 (rfl)

abbrev rm_t_X6_allow : Room := ({ frames := 1, cells := 0, slots := 0, locals := 25 } : Room)
set_option maxHeartbeats 4000000 in
set_option maxRecDepth 100000 in
theorem t_X6_allow (l : Launch) (D : va_G) (ty : g_T3) (n0 np na nc nf nq no nx ny nl nh nb nw nt : Nat) (th cp pl tl av wr : Int32) (rs : Int64) (en : Int32) (al : Nat → Bool) (o : Int32) (b : Bool) : g_U l yX6_allow wsX6_allow rm_t_X6_allow D ty g_X0 [.ref n0, .int o, .int (nI b.toNat)] [(n0, .inr (5, [.int th, .ref np, .ref na, .int cp, .ref nc, .int en, .ref nf, .ref nq, .ref no, .ref nx, .ref ny, .ref nl, .ref nh, .ref nb, .ref nw, .int pl, .ref nt, .int tl, .int av, .int wr, .long rs])), (na, .inl (ty.2.2, 10, .inl (zB al)))] 0 0 (g_ui (fun r w => (∃ k, k ≤ 9 ∧ o = nI k ∧ r = nI (ctB (va_up al k b) 10) ∧ w = [(n0, .inr (5, [.int (nI 0), .ref np, .ref na, .int cp, .ref nc, .int en, .ref nf, .ref nq, .ref no, .ref nx, .ref ny, .ref nl, .ref nh, .ref nb, .ref nw, .int pl, .ref nt, .int tl, .int av, .int wr, .long rs])), (na, .inl (ty.2.2, 10, .inl (zB (va_up al k b))))]) ∨ ((o.toInt < 0 ∨ 9 < o.toInt) ∧ r = nI 0 ∧ w = [(n0, .inr (5, [.int (nI 1), .ref np, .ref na, .int cp, .ref nc, .int en, .ref nf, .ref nq, .ref no, .ref nx, .ref ny, .ref nl, .ref nh, .ref nb, .ref nw, .int pl, .ref nt, .int tl, .int av, .int wr, .long rs])), (na, .inl (ty.2.2, 10, .inl (zB al)))]))) := by
  refine g_ofUi (cc := cX6_allow) (nL := 3) (own := RX6) (by decide) rfl rfl g_X0_ok (Nat.le_of_ble_eq_true rfl) ?_
  intro p e s m args below meth c Q A C hA hX hin hR
  refine g_lv (lv' := [(0, .ref n0), (1, .int o), (2, .int (nI b.toNat))]) [0, 1, 2] rfl ?_
  refine g_aload_n C dX6_allow_0 0 rfl rfl ?_
  refine g_iconst C dX6_allow_1 (v := (nI 0)) (by decide) ?_
  refine g_put C 0 rfl rfl 0 (by decide) (fun _ h => (List.mem_cons_of_mem _ (List.mem_append_right _ h))) 1 rfl rfl tyX6 tyX6_ok nmX6 rfl rfl rfl rfl (Nat.le_of_ble_eq_true rfl) (ws' := [(n0, .inr (5, [.int (nI 0), .ref np, .ref na, .int cp, .ref nc, .int en, .ref nf, .ref nq, .ref no, .ref nx, .ref ny, .ref nl, .ref nh, .ref nb, .ref nw, .int pl, .ref nt, .int tl, .int av, .int wr, .long rs])), (na, .inl (ty.2.2, 10, .inl (zB al)))]) rfl dX6_allow_2 ?_
  refine g_iload_n C dX6_allow_5 1 rfl rfl ?_
  refine g_iconst C dX6_allow_6 (v := (nI 0)) (by decide) ?_
  refine g_bipush C dX6_allow_7 (v := (nI 9)) (by decide) ?_
  refine g_callPS C ⟨g_X0_ok, trivial⟩ (t_X6_isIn l D ty o (nI 0) (nI 9)) rfl gX6_allow_X6_isIn 3 (by decide +kernel) rfl ⟨rfl, rfl⟩ ⟨Nat.le_of_ble_eq_true rfl, Nat.le_of_ble_eq_true rfl⟩ (rest := []) [] rfl (Nat.le_of_ble_eq_true rfl) dX6_allow_9 ⟨Nat.le_of_ble_eq_true rfl, Nat.le_of_ble_eq_true rfl⟩ rfl (g_ki (fun r hr => ?_))
  subst hr
  have := bt_lt (inB o (nI 0) (nI 9))
  refine g_if_neN C dX6_allow_12 (tgt := 21) (by decide) (by omega) (fun h12 => ?_) (fun h12 => ?_)
  · skip
    obtain ⟨k, hk, rfl⟩ := in_nI (by decide) h12
    refine g_aload_n C dX6_allow_21 0 rfl rfl ?_
    refine g_get C 0 rfl rfl 2 (by decide) (fun _ h => (List.mem_cons_of_mem _ (List.mem_append_right _ h))) 2 rfl rfl rfl dX6_allow_22 ?_
    refine g_iload_n C dX6_allow_25 1 rfl rfl ?_
    refine g_iload_n C dX6_allow_26 2 rfl rfl ?_
    refine g_zast C 1 rfl (by omega) (by omega) (f' := zB (va_up al k b)) (zB_upd _ _ _) (ws' := [(n0, .inr (5, [.int (nI 0), .ref np, .ref na, .int cp, .ref nc, .int en, .ref nf, .ref nq, .ref no, .ref nx, .ref ny, .ref nl, .ref nh, .ref nb, .ref nw, .int pl, .ref nt, .int tl, .int av, .int wr, .long rs])), (na, .inl (ty.2.2, 10, .inl (zB (va_up al k b))))]) rfl dX6_allow_27 ?_
    refine g_aload_n C dX6_allow_28 0 rfl rfl ?_
    refine g_get C 0 rfl rfl 2 (by decide) (fun _ h => (List.mem_cons_of_mem _ (List.mem_append_right _ h))) 2 rfl rfl rfl dX6_allow_29 ?_
    refine g_callPS C ⟨g_X0_ok, trivial⟩ (t_X6_count l D ty na 10 (va_up al k b) (by decide)) rfl gX6_allow_X6_count 1 (by decide +kernel) rfl ⟨rfl, rfl⟩ ⟨Nat.le_of_ble_eq_true rfl, Nat.le_of_ble_eq_true rfl⟩ (rest := []) [1] rfl (Nat.le_of_ble_eq_true rfl) dX6_allow_32 ⟨Nat.le_of_ble_eq_true rfl, Nat.le_of_ble_eq_true rfl⟩ rfl (g_ki (fun r hr => ?_))
    subst hr
    refine hR _ _ _ _ _ _ dX6_allow_35 ?_ (by omega) (by omega)
    exact Or.inl ⟨k, hk, rfl, rfl, rfl⟩
  · skip
    have hno := in_no (by decide) h12
    refine g_aload_n C dX6_allow_15 0 rfl rfl ?_
    refine g_iconst C dX6_allow_16 (v := (nI 1)) (by decide) ?_
    refine g_callUV C ⟨g_X0_ok, trivial⟩ (t_X6_no l D ty n0 np na nc nf nq no nx ny nl nh nb nw nt (nI 0) cp pl tl av wr rs en (nI 1)) rfl gX6_allow_X6_no 1 (by decide +kernel) rfl ⟨rfl, rfl⟩ ⟨Nat.le_of_ble_eq_true rfl, Nat.le_of_ble_eq_true rfl⟩ (rest := []) (q0 := 0) rfl rfl hA [0] [1] rfl rfl rfl (wr := [(na, .inl (ty.2.2, 10, .inl (zB al)))]) rfl rfl rfl (Nat.le_of_ble_eq_true rfl) dX6_allow_17 ⟨Nat.le_of_ble_eq_true rfl, Nat.le_of_ble_eq_true rfl⟩ rfl (g_kui (fun r w hr => ?_))
    obtain ⟨rfl, rfl⟩ := hr
    refine g_ws (ws' := [(n0, .inr (5, [.int (nI 1), .ref np, .ref na, .int cp, .ref nc, .int en, .ref nf, .ref nq, .ref no, .ref nx, .ref ny, .ref nl, .ref nh, .ref nb, .ref nw, .int pl, .ref nt, .int tl, .int av, .int wr, .long rs])), (na, .inl (ty.2.2, 10, .inl (zB al)))]) [1, 0] rfl rfl rfl ?_
    refine hR _ _ _ _ _ _ dX6_allow_20 ?_ (by omega) (by omega)
    exact Or.inr ⟨by omega, rfl, rfl⟩

abbrev rm_t_X6_setConstant : Room := ({ frames := 1, cells := 0, slots := 0, locals := 25 } : Room)
set_option maxHeartbeats 4000000 in
set_option maxRecDepth 100000 in
theorem t_X6_setConstant (l : Launch) (D : va_G) (ty : g_T3) (n0 np na nc nf nq no nx ny nl nh nb nw nt : Nat) (th cp pl tl av wr : Int32) (rs : Int64) (en : Int32) (cs : Nat → Bool) (o : Int32) (b : Bool) : g_U l yX6_setConstant wsX6_setConstant rm_t_X6_setConstant D ty g_X0 [.ref n0, .int o, .int (nI b.toNat)] [(n0, .inr (5, [.int th, .ref np, .ref na, .int cp, .ref nc, .int en, .ref nf, .ref nq, .ref no, .ref nx, .ref ny, .ref nl, .ref nh, .ref nb, .ref nw, .int pl, .ref nt, .int tl, .int av, .int wr, .long rs])), (nc, .inl (ty.2.2, 16, .inl (zB cs)))] 0 0 (g_ui (fun r w => (∃ k, k ≤ 15 ∧ o = nI k ∧ r = nI (ctB (va_up cs k b) 16) ∧ w = [(n0, .inr (5, [.int (nI 0), .ref np, .ref na, .int cp, .ref nc, .int en, .ref nf, .ref nq, .ref no, .ref nx, .ref ny, .ref nl, .ref nh, .ref nb, .ref nw, .int pl, .ref nt, .int tl, .int av, .int wr, .long rs])), (nc, .inl (ty.2.2, 16, .inl (zB (va_up cs k b))))]) ∨ ((o.toInt < 0 ∨ 15 < o.toInt) ∧ r = nI 0 ∧ w = [(n0, .inr (5, [.int (nI 1), .ref np, .ref na, .int cp, .ref nc, .int en, .ref nf, .ref nq, .ref no, .ref nx, .ref ny, .ref nl, .ref nh, .ref nb, .ref nw, .int pl, .ref nt, .int tl, .int av, .int wr, .long rs])), (nc, .inl (ty.2.2, 16, .inl (zB cs)))]))) := by
  refine g_ofUi (cc := cX6_setConstant) (nL := 3) (own := RX6) (by decide) rfl rfl g_X0_ok (Nat.le_of_ble_eq_true rfl) ?_
  intro p e s m args below meth c Q A C hA hX hin hR
  refine g_lv (lv' := [(0, .ref n0), (1, .int o), (2, .int (nI b.toNat))]) [0, 1, 2] rfl ?_
  refine g_aload_n C dX6_setConstant_0 0 rfl rfl ?_
  refine g_iconst C dX6_setConstant_1 (v := (nI 0)) (by decide) ?_
  refine g_put C 0 rfl rfl 0 (by decide) (fun _ h => (List.mem_cons_of_mem _ (List.mem_append_right _ h))) 1 rfl rfl tyX6 tyX6_ok nmX6 rfl rfl rfl rfl (Nat.le_of_ble_eq_true rfl) (ws' := [(n0, .inr (5, [.int (nI 0), .ref np, .ref na, .int cp, .ref nc, .int en, .ref nf, .ref nq, .ref no, .ref nx, .ref ny, .ref nl, .ref nh, .ref nb, .ref nw, .int pl, .ref nt, .int tl, .int av, .int wr, .long rs])), (nc, .inl (ty.2.2, 16, .inl (zB cs)))]) rfl dX6_setConstant_2 ?_
  refine g_iload_n C dX6_setConstant_5 1 rfl rfl ?_
  refine g_iconst C dX6_setConstant_6 (v := (nI 0)) (by decide) ?_
  refine g_bipush C dX6_setConstant_7 (v := (nI 15)) (by decide) ?_
  refine g_callPS C ⟨g_X0_ok, trivial⟩ (t_X6_isIn l D ty o (nI 0) (nI 15)) rfl gX6_setConstant_X6_isIn 3 (by decide +kernel) rfl ⟨rfl, rfl⟩ ⟨Nat.le_of_ble_eq_true rfl, Nat.le_of_ble_eq_true rfl⟩ (rest := []) [] rfl (Nat.le_of_ble_eq_true rfl) dX6_setConstant_9 ⟨Nat.le_of_ble_eq_true rfl, Nat.le_of_ble_eq_true rfl⟩ rfl (g_ki (fun r hr => ?_))
  subst hr
  have := bt_lt (inB o (nI 0) (nI 15))
  refine g_if_neN C dX6_setConstant_12 (tgt := 21) (by decide) (by omega) (fun h12 => ?_) (fun h12 => ?_)
  · skip
    obtain ⟨k, hk, rfl⟩ := in_nI (by decide) h12
    refine g_aload_n C dX6_setConstant_21 0 rfl rfl ?_
    refine g_get C 0 rfl rfl 4 (by decide) (fun _ h => (List.mem_cons_of_mem _ (List.mem_append_right _ h))) 2 rfl rfl rfl dX6_setConstant_22 ?_
    refine g_iload_n C dX6_setConstant_25 1 rfl rfl ?_
    refine g_iload_n C dX6_setConstant_26 2 rfl rfl ?_
    refine g_zast C 1 rfl (by omega) (by omega) (f' := zB (va_up cs k b)) (zB_upd _ _ _) (ws' := [(n0, .inr (5, [.int (nI 0), .ref np, .ref na, .int cp, .ref nc, .int en, .ref nf, .ref nq, .ref no, .ref nx, .ref ny, .ref nl, .ref nh, .ref nb, .ref nw, .int pl, .ref nt, .int tl, .int av, .int wr, .long rs])), (nc, .inl (ty.2.2, 16, .inl (zB (va_up cs k b))))]) rfl dX6_setConstant_27 ?_
    refine g_aload_n C dX6_setConstant_28 0 rfl rfl ?_
    refine g_get C 0 rfl rfl 4 (by decide) (fun _ h => (List.mem_cons_of_mem _ (List.mem_append_right _ h))) 2 rfl rfl rfl dX6_setConstant_29 ?_
    refine g_callPS C ⟨g_X0_ok, trivial⟩ (t_X6_count l D ty nc 16 (va_up cs k b) (by decide)) rfl gX6_setConstant_X6_count 1 (by decide +kernel) rfl ⟨rfl, rfl⟩ ⟨Nat.le_of_ble_eq_true rfl, Nat.le_of_ble_eq_true rfl⟩ (rest := []) [1] rfl (Nat.le_of_ble_eq_true rfl) dX6_setConstant_32 ⟨Nat.le_of_ble_eq_true rfl, Nat.le_of_ble_eq_true rfl⟩ rfl (g_ki (fun r hr => ?_))
    subst hr
    refine hR _ _ _ _ _ _ dX6_setConstant_35 ?_ (by omega) (by omega)
    exact Or.inl ⟨k, hk, rfl, rfl, rfl⟩
  · skip
    have hno := in_no (by decide) h12
    refine g_aload_n C dX6_setConstant_15 0 rfl rfl ?_
    refine g_iconst C dX6_setConstant_16 (v := (nI 1)) (by decide) ?_
    refine g_callUV C ⟨g_X0_ok, trivial⟩ (t_X6_no l D ty n0 np na nc nf nq no nx ny nl nh nb nw nt (nI 0) cp pl tl av wr rs en (nI 1)) rfl gX6_setConstant_X6_no 1 (by decide +kernel) rfl ⟨rfl, rfl⟩ ⟨Nat.le_of_ble_eq_true rfl, Nat.le_of_ble_eq_true rfl⟩ (rest := []) (q0 := 0) rfl rfl hA [0] [1] rfl rfl rfl (wr := [(nc, .inl (ty.2.2, 16, .inl (zB cs)))]) rfl rfl rfl (Nat.le_of_ble_eq_true rfl) dX6_setConstant_17 ⟨Nat.le_of_ble_eq_true rfl, Nat.le_of_ble_eq_true rfl⟩ rfl (g_kui (fun r w hr => ?_))
    obtain ⟨rfl, rfl⟩ := hr
    refine g_ws (ws' := [(n0, .inr (5, [.int (nI 1), .ref np, .ref na, .int cp, .ref nc, .int en, .ref nf, .ref nq, .ref no, .ref nx, .ref ny, .ref nl, .ref nh, .ref nb, .ref nw, .int pl, .ref nt, .int tl, .int av, .int wr, .long rs])), (nc, .inl (ty.2.2, 16, .inl (zB cs)))]) [1, 0] rfl rfl rfl ?_
    refine hR _ _ _ _ _ _ dX6_setConstant_20 ?_ (by omega) (by omega)
    exact Or.inr ⟨by omega, rfl, rfl⟩

abbrev rm_t_X6_setPrice : Room := ({ frames := 1, cells := 0, slots := 0, locals := 22 } : Room)
set_option maxHeartbeats 4000000 in
set_option maxRecDepth 100000 in
theorem t_X6_setPrice (l : Launch) (D : va_G) (ty : g_T3) (n0 np na nc nf nq no nx ny nl nh nb nw nt : Nat) (th pl tl av wr : Int32) (rs : Int64) (en : Int32) (p2 : Nat → Nat) (o v : Int32) : g_U l yX6_setPrice wsX6_setPrice rm_t_X6_setPrice D ty g_X0 [.ref n0, .int o, .int v] [(n0, .inr (5, [.int th, .ref np, .ref na, .int (nI (p2 10)), .ref nc, .int en, .ref nf, .ref nq, .ref no, .ref nx, .ref ny, .ref nl, .ref nh, .ref nb, .ref nw, .int pl, .ref nt, .int tl, .int av, .int wr, .long rs])), (np, .inl (ty.1, 10, .inl (zN p2)))] 0 0 (g_ui (fun r w => (∃ k u, k ≤ 10 ∧ o = nI k ∧ v = nI u ∧ (if k = 10 then 0 else 1) ≤ u ∧ u ≤ 5 ∧ r = nI (p2 k) ∧ w = [(n0, .inr (5, [.int (nI 0), .ref np, .ref na, .int (nI ((va_up p2 k u) 10)), .ref nc, .int en, .ref nf, .ref nq, .ref no, .ref nx, .ref ny, .ref nl, .ref nh, .ref nb, .ref nw, .int pl, .ref nt, .int tl, .int av, .int wr, .long rs])), (np, .inl (ty.1, 10, .inl (zN (va_up p2 k u))))]) ∨ ((o.toInt < 0 ∨ 10 < o.toInt) ∧ r = nI 0 ∧ w = [(n0, .inr (5, [.int (nI 1), .ref np, .ref na, .int (nI (p2 10)), .ref nc, .int en, .ref nf, .ref nq, .ref no, .ref nx, .ref ny, .ref nl, .ref nh, .ref nb, .ref nw, .int pl, .ref nt, .int tl, .int av, .int wr, .long rs])), (np, .inl (ty.1, 10, .inl (zN p2)))]) ∨ ((∃ k, k ≤ 10 ∧ o = nI k ∧ (v.toInt < (((if k = 10 then 0 else 1) : Nat) : Int) ∨ 5 < v.toInt)) ∧ r = nI 0 ∧ w = [(n0, .inr (5, [.int (nI 2), .ref np, .ref na, .int (nI (p2 10)), .ref nc, .int en, .ref nf, .ref nq, .ref no, .ref nx, .ref ny, .ref nl, .ref nh, .ref nb, .ref nw, .int pl, .ref nt, .int tl, .int av, .int wr, .long rs])), (np, .inl (ty.1, 10, .inl (zN p2)))]))) := by
  refine g_ofUi (cc := cX6_setPrice) (nL := 4) (own := RX6) (by decide) rfl rfl g_X0_ok (Nat.le_of_ble_eq_true rfl) ?_
  intro p e s m args below meth c Q A C hA hX hin hR
  refine g_lv (lv' := [(0, .ref n0), (1, .int o), (2, .int v)]) [0, 1, 2] rfl ?_
  refine g_aload_n C dX6_setPrice_0 0 rfl rfl ?_
  refine g_iconst C dX6_setPrice_1 (v := (nI 0)) (by decide) ?_
  refine g_put C 0 rfl rfl 0 (by decide) (fun _ h => (List.mem_cons_of_mem _ (List.mem_append_right _ h))) 1 rfl rfl tyX6 tyX6_ok nmX6 rfl rfl rfl rfl (Nat.le_of_ble_eq_true rfl) (ws' := [(n0, .inr (5, [.int (nI 0), .ref np, .ref na, .int (nI (p2 10)), .ref nc, .int en, .ref nf, .ref nq, .ref no, .ref nx, .ref ny, .ref nl, .ref nh, .ref nb, .ref nw, .int pl, .ref nt, .int tl, .int av, .int wr, .long rs])), (np, .inl (ty.1, 10, .inl (zN p2)))]) rfl dX6_setPrice_2 ?_
  refine g_iload_n C dX6_setPrice_5 1 rfl rfl ?_
  refine g_iconst C dX6_setPrice_6 (v := (nI 0)) (by decide) ?_
  refine g_bipush C dX6_setPrice_7 (v := (nI 10)) (by decide) ?_
  refine g_callPS C ⟨g_X0_ok, trivial⟩ (t_X6_isIn l D ty o (nI 0) (nI 10)) rfl gX6_setPrice_X6_isIn 3 (by decide +kernel) rfl ⟨rfl, rfl⟩ ⟨Nat.le_of_ble_eq_true rfl, Nat.le_of_ble_eq_true rfl⟩ (rest := []) [] rfl (Nat.le_of_ble_eq_true rfl) dX6_setPrice_9 ⟨Nat.le_of_ble_eq_true rfl, Nat.le_of_ble_eq_true rfl⟩ rfl (g_ki (fun r hr => ?_))
  subst hr
  have := bt_lt (inB o (nI 0) (nI 10))
  refine g_if_neN C dX6_setPrice_12 (tgt := 21) (by decide) (by omega) (fun h12 => ?_) (fun h12 => ?_)
  · skip
    obtain ⟨k, hk, rfl⟩ := in_nI (by decide) h12
    refine g_iload_n C dX6_setPrice_21 2 rfl rfl ?_
    refine g_iload_n C dX6_setPrice_22 1 rfl rfl ?_
    refine g_bipush C dX6_setPrice_23 (v := (nI 10)) (by decide) ?_
    refine g_icmp_neN C dX6_setPrice_25 (tgt := 32) (by decide) (by omega) (by omega) (fun h25 => ?_) (fun h25 => ?_)
    · skip
      refine g_iconst C dX6_setPrice_32 (v := (nI 1)) (by decide) ?_
      have L33 : ∀ (n9 : Nat) (lo : Nat), 0 < n9 → (lo = (if k = 10 then 0 else 1)) → (lo ≤ 1) → gG (g_IU A D s) p l e rm_t_X6_setPrice s m args below meth c Q 4 0 0 33 [(0, .ref n0), (1, .int (nI k)), (2, .int v)] [.int (nI lo), .int v] [(n0, .inr (5, [.int (nI 0), .ref np, .ref na, .int (nI (p2 10)), .ref nc, .int en, .ref nf, .ref nq, .ref no, .ref nx, .ref ny, .ref nl, .ref nh, .ref nb, .ref nw, .int pl, .ref nt, .int tl, .int av, .int wr, .long rs])), (np, .inl (ty.1, 10, .inl (zN p2)))] := by
        intro n9
        induction n9 with
        | zero => intro lo hn; exact absurd hn (Nat.not_lt_zero _)
        | succ n9 ih33 =>
          intro lo hn33 hlo hlo1
          refine g_iconst C dX6_setPrice_33 (v := (nI 5)) (by decide) ?_
          refine g_callPS C ⟨g_X0_ok, trivial⟩ (t_X6_isIn l D ty v (nI lo) (nI 5)) rfl gX6_setPrice_X6_isIn 3 (by decide +kernel) rfl ⟨rfl, rfl⟩ ⟨Nat.le_of_ble_eq_true rfl, Nat.le_of_ble_eq_true rfl⟩ (rest := []) [] rfl (Nat.le_of_ble_eq_true rfl) dX6_setPrice_34 ⟨Nat.le_of_ble_eq_true rfl, Nat.le_of_ble_eq_true rfl⟩ rfl (g_ki (fun r hr => ?_))
          subst hr
          have := bt_lt (inB v (nI lo) (nI 5))
          refine g_if_neN C dX6_setPrice_37 (tgt := 46) (by decide) (by omega) (fun h37 => ?_) (fun h37 => ?_)
          · skip
            have hv := in_1 h37
            rw [nI_toInt (by omega), nI_toInt (by decide)] at hv
            obtain ⟨u, hu, rfl⟩ := nI_of_int (x := v) (n := 5) (by omega) (by omega)
            rw [nI_toInt (by omega)] at hv
            refine g_iload_n C dX6_setPrice_46 1 rfl rfl ?_
            refine g_bipush C dX6_setPrice_47 (v := (nI 10)) (by decide) ?_
            refine g_icmp_neN C dX6_setPrice_49 (tgt := 59) (by decide) (by omega) (by omega) (fun h49 => ?_) (fun h49 => ?_)
            · skip
              refine g_aload_n C dX6_setPrice_59 0 rfl rfl ?_
              refine g_get C 0 rfl rfl 1 (by decide) (fun _ h => (List.mem_cons_of_mem _ (List.mem_append_right _ h))) 3 rfl rfl rfl dX6_setPrice_60 ?_
              refine g_iload_n C dX6_setPrice_63 1 rfl rfl ?_
              refine g_iald C (v := (nI (p2 k))) 1 rfl (by omega) (by omega) rfl dX6_setPrice_64 ?_
              refine g_istore_n C dX6_setPrice_65 rfl (by decide) (lv' := [(3, .int (nI (p2 k))), (0, .ref n0), (1, .int (nI k)), (2, .int (nI u))]) rfl ?_
              refine g_iload_n C dX6_setPrice_66 2 rfl rfl ?_
              refine g_bipush C dX6_setPrice_67 (v := (nI 10)) (by decide) ?_
              refine g_icmp_neN C dX6_setPrice_69 (tgt := 80) (by decide) (by omega) (by omega) (fun h69 => ?_) (fun h69 => ?_)
              · skip
                refine g_aload_n C dX6_setPrice_80 1 rfl rfl ?_
                refine g_get C 0 rfl rfl 1 (by decide) (fun _ h => (List.mem_cons_of_mem _ (List.mem_append_right _ h))) 3 rfl rfl rfl dX6_setPrice_81 ?_
                refine g_iload_n C dX6_setPrice_84 2 rfl rfl ?_
                refine g_iload_n C dX6_setPrice_85 3 rfl rfl ?_
                refine g_iast C 1 rfl (by omega) (by omega) (f' := zN (va_up p2 k u)) (zN_upd _ _ _) (ws' := [(n0, .inr (5, [.int (nI 0), .ref np, .ref na, .int (nI (p2 10)), .ref nc, .int en, .ref nf, .ref nq, .ref no, .ref nx, .ref ny, .ref nl, .ref nh, .ref nb, .ref nw, .int pl, .ref nt, .int tl, .int av, .int wr, .long rs])), (np, .inl (ty.1, 10, .inl (zN (va_up p2 k u))))]) rfl dX6_setPrice_86 ?_
                refine g_iload_n C dX6_setPrice_87 0 rfl rfl ?_
                refine hR _ _ _ _ _ _ dX6_setPrice_88 ?_ (by omega) (by omega)
                first
                | (exfalso; omega)
                | exact Or.inl ⟨k, u, hk, rfl, rfl, by omega, hu, rfl, by rw [va_up_ne _ _ (by omega)]⟩
                | exact Or.inl ⟨k, u, hk, rfl, rfl, by omega, hu, by rw [show k = 10 by omega], rfl⟩
              · skip
                refine g_aload_n C dX6_setPrice_72 1 rfl rfl ?_
                refine g_iload_n C dX6_setPrice_73 3 rfl rfl ?_
                refine g_put C 0 rfl rfl 3 (by decide) (fun _ h => (List.mem_cons_of_mem _ (List.mem_append_right _ h))) 2 rfl rfl tyX6 tyX6_ok nmX6 rfl rfl rfl rfl (Nat.le_of_ble_eq_true rfl) (ws' := [(n0, .inr (5, [.int (nI 0), .ref np, .ref na, .int (nI u), .ref nc, .int en, .ref nf, .ref nq, .ref no, .ref nx, .ref ny, .ref nl, .ref nh, .ref nb, .ref nw, .int pl, .ref nt, .int tl, .int av, .int wr, .long rs])), (np, .inl (ty.1, 10, .inl (zN p2)))]) rfl dX6_setPrice_74 ?_
                refine g_ct (f' := zN (va_up p2 k u)) 1 rfl (fun i hi => by show nI (p2 i) = nI (va_up p2 k u i); rw [va_up_ne _ _ (by omega)]) rfl ?_
                refine g_is (ws2 := [(n0, .inr (5, [.int (nI 0), .ref np, .ref na, .int (nI ((va_up p2 k u) 10)), .ref nc, .int en, .ref nf, .ref nq, .ref no, .ref nx, .ref ny, .ref nl, .ref nh, .ref nb, .ref nw, .int pl, .ref nt, .int tl, .int av, .int wr, .long rs])), (np, .inl (ty.1, 10, .inl (zN (va_up p2 k u))))]) ?_ rfl rfl rfl (by have hq : (va_up p2 k u) 10 = u := (by rw [show k = 10 by omega]; exact va_up_self _ _ _); first | (rw [hq]; done) | (rw [hq]; rfl))
                refine g_goto C dX6_setPrice_77 (tgt := 87) (by decide) ?_
                refine g_iload_n C dX6_setPrice_87 0 rfl rfl ?_
                refine hR _ _ _ _ _ _ dX6_setPrice_88 ?_ (by omega) (by omega)
                first
                | (exfalso; omega)
                | exact Or.inl ⟨k, u, hk, rfl, rfl, by omega, hu, rfl, by rw [va_up_ne _ _ (by omega)]⟩
                | exact Or.inl ⟨k, u, hk, rfl, rfl, by omega, hu, by rw [show k = 10 by omega], rfl⟩
            · skip
              refine g_aload_n C dX6_setPrice_52 0 rfl rfl ?_
              refine g_get C 0 rfl rfl 3 (by decide) (fun _ h => (List.mem_cons_of_mem _ (List.mem_append_right _ h))) 2 rfl rfl rfl dX6_setPrice_53 ?_
              refine g_goto C dX6_setPrice_56 (tgt := 65) (by decide) ?_
              refine g_istore_n C dX6_setPrice_65 rfl (by decide) (lv' := [(3, .int (nI (p2 10))), (0, .ref n0), (1, .int (nI k)), (2, .int (nI u))]) rfl ?_
              refine g_iload_n C dX6_setPrice_66 2 rfl rfl ?_
              refine g_bipush C dX6_setPrice_67 (v := (nI 10)) (by decide) ?_
              refine g_icmp_neN C dX6_setPrice_69 (tgt := 80) (by decide) (by omega) (by omega) (fun h69 => ?_) (fun h69 => ?_)
              · skip
                refine g_aload_n C dX6_setPrice_80 1 rfl rfl ?_
                refine g_get C 0 rfl rfl 1 (by decide) (fun _ h => (List.mem_cons_of_mem _ (List.mem_append_right _ h))) 3 rfl rfl rfl dX6_setPrice_81 ?_
                refine g_iload_n C dX6_setPrice_84 2 rfl rfl ?_
                refine g_iload_n C dX6_setPrice_85 3 rfl rfl ?_
                refine g_iast C 1 rfl (by omega) (by omega) (f' := zN (va_up p2 k u)) (zN_upd _ _ _) (ws' := [(n0, .inr (5, [.int (nI 0), .ref np, .ref na, .int (nI (p2 10)), .ref nc, .int en, .ref nf, .ref nq, .ref no, .ref nx, .ref ny, .ref nl, .ref nh, .ref nb, .ref nw, .int pl, .ref nt, .int tl, .int av, .int wr, .long rs])), (np, .inl (ty.1, 10, .inl (zN (va_up p2 k u))))]) rfl dX6_setPrice_86 ?_
                refine g_iload_n C dX6_setPrice_87 0 rfl rfl ?_
                refine hR _ _ _ _ _ _ dX6_setPrice_88 ?_ (by omega) (by omega)
                first
                | (exfalso; omega)
                | exact Or.inl ⟨k, u, hk, rfl, rfl, by omega, hu, rfl, by rw [va_up_ne _ _ (by omega)]⟩
                | exact Or.inl ⟨k, u, hk, rfl, rfl, by omega, hu, by rw [show k = 10 by omega], rfl⟩
              · skip
                refine g_aload_n C dX6_setPrice_72 1 rfl rfl ?_
                refine g_iload_n C dX6_setPrice_73 3 rfl rfl ?_
                refine g_put C 0 rfl rfl 3 (by decide) (fun _ h => (List.mem_cons_of_mem _ (List.mem_append_right _ h))) 2 rfl rfl tyX6 tyX6_ok nmX6 rfl rfl rfl rfl (Nat.le_of_ble_eq_true rfl) (ws' := [(n0, .inr (5, [.int (nI 0), .ref np, .ref na, .int (nI u), .ref nc, .int en, .ref nf, .ref nq, .ref no, .ref nx, .ref ny, .ref nl, .ref nh, .ref nb, .ref nw, .int pl, .ref nt, .int tl, .int av, .int wr, .long rs])), (np, .inl (ty.1, 10, .inl (zN p2)))]) rfl dX6_setPrice_74 ?_
                refine g_ct (f' := zN (va_up p2 k u)) 1 rfl (fun i hi => by show nI (p2 i) = nI (va_up p2 k u i); rw [va_up_ne _ _ (by omega)]) rfl ?_
                refine g_is (ws2 := [(n0, .inr (5, [.int (nI 0), .ref np, .ref na, .int (nI ((va_up p2 k u) 10)), .ref nc, .int en, .ref nf, .ref nq, .ref no, .ref nx, .ref ny, .ref nl, .ref nh, .ref nb, .ref nw, .int pl, .ref nt, .int tl, .int av, .int wr, .long rs])), (np, .inl (ty.1, 10, .inl (zN (va_up p2 k u))))]) ?_ rfl rfl rfl (by have hq : (va_up p2 k u) 10 = u := (by rw [show k = 10 by omega]; exact va_up_self _ _ _); first | (rw [hq]; done) | (rw [hq]; rfl))
                refine g_goto C dX6_setPrice_77 (tgt := 87) (by decide) ?_
                refine g_iload_n C dX6_setPrice_87 0 rfl rfl ?_
                refine hR _ _ _ _ _ _ dX6_setPrice_88 ?_ (by omega) (by omega)
                first
                | (exfalso; omega)
                | exact Or.inl ⟨k, u, hk, rfl, rfl, by omega, hu, rfl, by rw [va_up_ne _ _ (by omega)]⟩
                | exact Or.inl ⟨k, u, hk, rfl, rfl, by omega, hu, by rw [show k = 10 by omega], rfl⟩
          · skip
            have hv := in_0 h37
            rw [nI_toInt (by omega), nI_toInt (by decide)] at hv
            refine g_aload_n C dX6_setPrice_40 0 rfl rfl ?_
            refine g_iconst C dX6_setPrice_41 (v := (nI 2)) (by decide) ?_
            refine g_callUV C ⟨g_X0_ok, trivial⟩ (t_X6_no l D ty n0 np na nc nf nq no nx ny nl nh nb nw nt (nI 0) (nI (p2 10)) pl tl av wr rs en (nI 2)) rfl gX6_setPrice_X6_no 1 (by decide +kernel) rfl ⟨rfl, rfl⟩ ⟨Nat.le_of_ble_eq_true rfl, Nat.le_of_ble_eq_true rfl⟩ (rest := []) (q0 := 0) rfl rfl hA [0] [1] rfl rfl rfl (wr := [(np, .inl (ty.1, 10, .inl (zN p2)))]) rfl rfl rfl (Nat.le_of_ble_eq_true rfl) dX6_setPrice_42 ⟨Nat.le_of_ble_eq_true rfl, Nat.le_of_ble_eq_true rfl⟩ rfl (g_kui (fun r w hr => ?_))
            obtain ⟨rfl, rfl⟩ := hr
            refine g_ws (ws' := [(n0, .inr (5, [.int (nI 2), .ref np, .ref na, .int (nI (p2 10)), .ref nc, .int en, .ref nf, .ref nq, .ref no, .ref nx, .ref ny, .ref nl, .ref nh, .ref nb, .ref nw, .int pl, .ref nt, .int tl, .int av, .int wr, .long rs])), (np, .inl (ty.1, 10, .inl (zN p2)))]) [1, 0] rfl rfl rfl ?_
            refine hR _ _ _ _ _ _ dX6_setPrice_45 ?_ (by omega) (by omega)
            exact Or.inr (Or.inr ⟨⟨k, hk, rfl, by rw [← hlo]; omega⟩, rfl, rfl⟩)
      exact L33 _ _ (Nat.lt_succ_self _) (by first | exact (if_pos (by omega)).symm | exact (if_neg (by omega)).symm) (by decide)
    · skip
      refine g_iconst C dX6_setPrice_28 (v := (nI 0)) (by decide) ?_
      refine g_goto C dX6_setPrice_29 (tgt := 33) (by decide) ?_
      have L33 : ∀ (n9 : Nat) (lo : Nat), 0 < n9 → (lo = (if k = 10 then 0 else 1)) → (lo ≤ 1) → gG (g_IU A D s) p l e rm_t_X6_setPrice s m args below meth c Q 4 0 0 33 [(0, .ref n0), (1, .int (nI k)), (2, .int v)] [.int (nI lo), .int v] [(n0, .inr (5, [.int (nI 0), .ref np, .ref na, .int (nI (p2 10)), .ref nc, .int en, .ref nf, .ref nq, .ref no, .ref nx, .ref ny, .ref nl, .ref nh, .ref nb, .ref nw, .int pl, .ref nt, .int tl, .int av, .int wr, .long rs])), (np, .inl (ty.1, 10, .inl (zN p2)))] := by
        intro n9
        induction n9 with
        | zero => intro lo hn; exact absurd hn (Nat.not_lt_zero _)
        | succ n9 ih33 =>
          intro lo hn33 hlo hlo1
          refine g_iconst C dX6_setPrice_33 (v := (nI 5)) (by decide) ?_
          refine g_callPS C ⟨g_X0_ok, trivial⟩ (t_X6_isIn l D ty v (nI lo) (nI 5)) rfl gX6_setPrice_X6_isIn 3 (by decide +kernel) rfl ⟨rfl, rfl⟩ ⟨Nat.le_of_ble_eq_true rfl, Nat.le_of_ble_eq_true rfl⟩ (rest := []) [] rfl (Nat.le_of_ble_eq_true rfl) dX6_setPrice_34 ⟨Nat.le_of_ble_eq_true rfl, Nat.le_of_ble_eq_true rfl⟩ rfl (g_ki (fun r hr => ?_))
          subst hr
          have := bt_lt (inB v (nI lo) (nI 5))
          refine g_if_neN C dX6_setPrice_37 (tgt := 46) (by decide) (by omega) (fun h37 => ?_) (fun h37 => ?_)
          · skip
            have hv := in_1 h37
            rw [nI_toInt (by omega), nI_toInt (by decide)] at hv
            obtain ⟨u, hu, rfl⟩ := nI_of_int (x := v) (n := 5) (by omega) (by omega)
            rw [nI_toInt (by omega)] at hv
            refine g_iload_n C dX6_setPrice_46 1 rfl rfl ?_
            refine g_bipush C dX6_setPrice_47 (v := (nI 10)) (by decide) ?_
            refine g_icmp_neN C dX6_setPrice_49 (tgt := 59) (by decide) (by omega) (by omega) (fun h49 => ?_) (fun h49 => ?_)
            · skip
              refine g_aload_n C dX6_setPrice_59 0 rfl rfl ?_
              refine g_get C 0 rfl rfl 1 (by decide) (fun _ h => (List.mem_cons_of_mem _ (List.mem_append_right _ h))) 3 rfl rfl rfl dX6_setPrice_60 ?_
              refine g_iload_n C dX6_setPrice_63 1 rfl rfl ?_
              refine g_iald C (v := (nI (p2 k))) 1 rfl (by omega) (by omega) rfl dX6_setPrice_64 ?_
              refine g_istore_n C dX6_setPrice_65 rfl (by decide) (lv' := [(3, .int (nI (p2 k))), (0, .ref n0), (1, .int (nI k)), (2, .int (nI u))]) rfl ?_
              refine g_iload_n C dX6_setPrice_66 2 rfl rfl ?_
              refine g_bipush C dX6_setPrice_67 (v := (nI 10)) (by decide) ?_
              refine g_icmp_neN C dX6_setPrice_69 (tgt := 80) (by decide) (by omega) (by omega) (fun h69 => ?_) (fun h69 => ?_)
              · skip
                refine g_aload_n C dX6_setPrice_80 1 rfl rfl ?_
                refine g_get C 0 rfl rfl 1 (by decide) (fun _ h => (List.mem_cons_of_mem _ (List.mem_append_right _ h))) 3 rfl rfl rfl dX6_setPrice_81 ?_
                refine g_iload_n C dX6_setPrice_84 2 rfl rfl ?_
                refine g_iload_n C dX6_setPrice_85 3 rfl rfl ?_
                refine g_iast C 1 rfl (by omega) (by omega) (f' := zN (va_up p2 k u)) (zN_upd _ _ _) (ws' := [(n0, .inr (5, [.int (nI 0), .ref np, .ref na, .int (nI (p2 10)), .ref nc, .int en, .ref nf, .ref nq, .ref no, .ref nx, .ref ny, .ref nl, .ref nh, .ref nb, .ref nw, .int pl, .ref nt, .int tl, .int av, .int wr, .long rs])), (np, .inl (ty.1, 10, .inl (zN (va_up p2 k u))))]) rfl dX6_setPrice_86 ?_
                refine g_iload_n C dX6_setPrice_87 0 rfl rfl ?_
                refine hR _ _ _ _ _ _ dX6_setPrice_88 ?_ (by omega) (by omega)
                first
                | (exfalso; omega)
                | exact Or.inl ⟨k, u, hk, rfl, rfl, by omega, hu, rfl, by rw [va_up_ne _ _ (by omega)]⟩
                | exact Or.inl ⟨k, u, hk, rfl, rfl, by omega, hu, by rw [show k = 10 by omega], rfl⟩
              · skip
                refine g_aload_n C dX6_setPrice_72 1 rfl rfl ?_
                refine g_iload_n C dX6_setPrice_73 3 rfl rfl ?_
                refine g_put C 0 rfl rfl 3 (by decide) (fun _ h => (List.mem_cons_of_mem _ (List.mem_append_right _ h))) 2 rfl rfl tyX6 tyX6_ok nmX6 rfl rfl rfl rfl (Nat.le_of_ble_eq_true rfl) (ws' := [(n0, .inr (5, [.int (nI 0), .ref np, .ref na, .int (nI u), .ref nc, .int en, .ref nf, .ref nq, .ref no, .ref nx, .ref ny, .ref nl, .ref nh, .ref nb, .ref nw, .int pl, .ref nt, .int tl, .int av, .int wr, .long rs])), (np, .inl (ty.1, 10, .inl (zN p2)))]) rfl dX6_setPrice_74 ?_
                refine g_ct (f' := zN (va_up p2 k u)) 1 rfl (fun i hi => by show nI (p2 i) = nI (va_up p2 k u i); rw [va_up_ne _ _ (by omega)]) rfl ?_
                refine g_is (ws2 := [(n0, .inr (5, [.int (nI 0), .ref np, .ref na, .int (nI ((va_up p2 k u) 10)), .ref nc, .int en, .ref nf, .ref nq, .ref no, .ref nx, .ref ny, .ref nl, .ref nh, .ref nb, .ref nw, .int pl, .ref nt, .int tl, .int av, .int wr, .long rs])), (np, .inl (ty.1, 10, .inl (zN (va_up p2 k u))))]) ?_ rfl rfl rfl (by have hq : (va_up p2 k u) 10 = u := (by rw [show k = 10 by omega]; exact va_up_self _ _ _); first | (rw [hq]; done) | (rw [hq]; rfl))
                refine g_goto C dX6_setPrice_77 (tgt := 87) (by decide) ?_
                refine g_iload_n C dX6_setPrice_87 0 rfl rfl ?_
                refine hR _ _ _ _ _ _ dX6_setPrice_88 ?_ (by omega) (by omega)
                first
                | (exfalso; omega)
                | exact Or.inl ⟨k, u, hk, rfl, rfl, by omega, hu, rfl, by rw [va_up_ne _ _ (by omega)]⟩
                | exact Or.inl ⟨k, u, hk, rfl, rfl, by omega, hu, by rw [show k = 10 by omega], rfl⟩
            · skip
              refine g_aload_n C dX6_setPrice_52 0 rfl rfl ?_
              refine g_get C 0 rfl rfl 3 (by decide) (fun _ h => (List.mem_cons_of_mem _ (List.mem_append_right _ h))) 2 rfl rfl rfl dX6_setPrice_53 ?_
              refine g_goto C dX6_setPrice_56 (tgt := 65) (by decide) ?_
              refine g_istore_n C dX6_setPrice_65 rfl (by decide) (lv' := [(3, .int (nI (p2 10))), (0, .ref n0), (1, .int (nI k)), (2, .int (nI u))]) rfl ?_
              refine g_iload_n C dX6_setPrice_66 2 rfl rfl ?_
              refine g_bipush C dX6_setPrice_67 (v := (nI 10)) (by decide) ?_
              refine g_icmp_neN C dX6_setPrice_69 (tgt := 80) (by decide) (by omega) (by omega) (fun h69 => ?_) (fun h69 => ?_)
              · skip
                refine g_aload_n C dX6_setPrice_80 1 rfl rfl ?_
                refine g_get C 0 rfl rfl 1 (by decide) (fun _ h => (List.mem_cons_of_mem _ (List.mem_append_right _ h))) 3 rfl rfl rfl dX6_setPrice_81 ?_
                refine g_iload_n C dX6_setPrice_84 2 rfl rfl ?_
                refine g_iload_n C dX6_setPrice_85 3 rfl rfl ?_
                refine g_iast C 1 rfl (by omega) (by omega) (f' := zN (va_up p2 k u)) (zN_upd _ _ _) (ws' := [(n0, .inr (5, [.int (nI 0), .ref np, .ref na, .int (nI (p2 10)), .ref nc, .int en, .ref nf, .ref nq, .ref no, .ref nx, .ref ny, .ref nl, .ref nh, .ref nb, .ref nw, .int pl, .ref nt, .int tl, .int av, .int wr, .long rs])), (np, .inl (ty.1, 10, .inl (zN (va_up p2 k u))))]) rfl dX6_setPrice_86 ?_
                refine g_iload_n C dX6_setPrice_87 0 rfl rfl ?_
                refine hR _ _ _ _ _ _ dX6_setPrice_88 ?_ (by omega) (by omega)
                first
                | (exfalso; omega)
                | exact Or.inl ⟨k, u, hk, rfl, rfl, by omega, hu, rfl, by rw [va_up_ne _ _ (by omega)]⟩
                | exact Or.inl ⟨k, u, hk, rfl, rfl, by omega, hu, by rw [show k = 10 by omega], rfl⟩
              · skip
                refine g_aload_n C dX6_setPrice_72 1 rfl rfl ?_
                refine g_iload_n C dX6_setPrice_73 3 rfl rfl ?_
                refine g_put C 0 rfl rfl 3 (by decide) (fun _ h => (List.mem_cons_of_mem _ (List.mem_append_right _ h))) 2 rfl rfl tyX6 tyX6_ok nmX6 rfl rfl rfl rfl (Nat.le_of_ble_eq_true rfl) (ws' := [(n0, .inr (5, [.int (nI 0), .ref np, .ref na, .int (nI u), .ref nc, .int en, .ref nf, .ref nq, .ref no, .ref nx, .ref ny, .ref nl, .ref nh, .ref nb, .ref nw, .int pl, .ref nt, .int tl, .int av, .int wr, .long rs])), (np, .inl (ty.1, 10, .inl (zN p2)))]) rfl dX6_setPrice_74 ?_
                refine g_ct (f' := zN (va_up p2 k u)) 1 rfl (fun i hi => by show nI (p2 i) = nI (va_up p2 k u i); rw [va_up_ne _ _ (by omega)]) rfl ?_
                refine g_is (ws2 := [(n0, .inr (5, [.int (nI 0), .ref np, .ref na, .int (nI ((va_up p2 k u) 10)), .ref nc, .int en, .ref nf, .ref nq, .ref no, .ref nx, .ref ny, .ref nl, .ref nh, .ref nb, .ref nw, .int pl, .ref nt, .int tl, .int av, .int wr, .long rs])), (np, .inl (ty.1, 10, .inl (zN (va_up p2 k u))))]) ?_ rfl rfl rfl (by have hq : (va_up p2 k u) 10 = u := (by rw [show k = 10 by omega]; exact va_up_self _ _ _); first | (rw [hq]; done) | (rw [hq]; rfl))
                refine g_goto C dX6_setPrice_77 (tgt := 87) (by decide) ?_
                refine g_iload_n C dX6_setPrice_87 0 rfl rfl ?_
                refine hR _ _ _ _ _ _ dX6_setPrice_88 ?_ (by omega) (by omega)
                first
                | (exfalso; omega)
                | exact Or.inl ⟨k, u, hk, rfl, rfl, by omega, hu, rfl, by rw [va_up_ne _ _ (by omega)]⟩
                | exact Or.inl ⟨k, u, hk, rfl, rfl, by omega, hu, by rw [show k = 10 by omega], rfl⟩
          · skip
            have hv := in_0 h37
            rw [nI_toInt (by omega), nI_toInt (by decide)] at hv
            refine g_aload_n C dX6_setPrice_40 0 rfl rfl ?_
            refine g_iconst C dX6_setPrice_41 (v := (nI 2)) (by decide) ?_
            refine g_callUV C ⟨g_X0_ok, trivial⟩ (t_X6_no l D ty n0 np na nc nf nq no nx ny nl nh nb nw nt (nI 0) (nI (p2 10)) pl tl av wr rs en (nI 2)) rfl gX6_setPrice_X6_no 1 (by decide +kernel) rfl ⟨rfl, rfl⟩ ⟨Nat.le_of_ble_eq_true rfl, Nat.le_of_ble_eq_true rfl⟩ (rest := []) (q0 := 0) rfl rfl hA [0] [1] rfl rfl rfl (wr := [(np, .inl (ty.1, 10, .inl (zN p2)))]) rfl rfl rfl (Nat.le_of_ble_eq_true rfl) dX6_setPrice_42 ⟨Nat.le_of_ble_eq_true rfl, Nat.le_of_ble_eq_true rfl⟩ rfl (g_kui (fun r w hr => ?_))
            obtain ⟨rfl, rfl⟩ := hr
            refine g_ws (ws' := [(n0, .inr (5, [.int (nI 2), .ref np, .ref na, .int (nI (p2 10)), .ref nc, .int en, .ref nf, .ref nq, .ref no, .ref nx, .ref ny, .ref nl, .ref nh, .ref nb, .ref nw, .int pl, .ref nt, .int tl, .int av, .int wr, .long rs])), (np, .inl (ty.1, 10, .inl (zN p2)))]) [1, 0] rfl rfl rfl ?_
            refine hR _ _ _ _ _ _ dX6_setPrice_45 ?_ (by omega) (by omega)
            exact Or.inr (Or.inr ⟨⟨k, hk, rfl, by rw [← hlo]; omega⟩, rfl, rfl⟩)
      exact L33 _ _ (Nat.lt_succ_self _) (by first | exact (if_pos (by omega)).symm | exact (if_neg (by omega)).symm) (by decide)
  · skip
    have hno := in_no (by decide) h12
    refine g_aload_n C dX6_setPrice_15 0 rfl rfl ?_
    refine g_iconst C dX6_setPrice_16 (v := (nI 1)) (by decide) ?_
    refine g_callUV C ⟨g_X0_ok, trivial⟩ (t_X6_no l D ty n0 np na nc nf nq no nx ny nl nh nb nw nt (nI 0) (nI (p2 10)) pl tl av wr rs en (nI 1)) rfl gX6_setPrice_X6_no 1 (by decide +kernel) rfl ⟨rfl, rfl⟩ ⟨Nat.le_of_ble_eq_true rfl, Nat.le_of_ble_eq_true rfl⟩ (rest := []) (q0 := 0) rfl rfl hA [0] [1] rfl rfl rfl (wr := [(np, .inl (ty.1, 10, .inl (zN p2)))]) rfl rfl rfl (Nat.le_of_ble_eq_true rfl) dX6_setPrice_17 ⟨Nat.le_of_ble_eq_true rfl, Nat.le_of_ble_eq_true rfl⟩ rfl (g_kui (fun r w hr => ?_))
    obtain ⟨rfl, rfl⟩ := hr
    refine g_ws (ws' := [(n0, .inr (5, [.int (nI 1), .ref np, .ref na, .int (nI (p2 10)), .ref nc, .int en, .ref nf, .ref nq, .ref no, .ref nx, .ref ny, .ref nl, .ref nh, .ref nb, .ref nw, .int pl, .ref nt, .int tl, .int av, .int wr, .long rs])), (np, .inl (ty.1, 10, .inl (zN p2)))]) [1, 0] rfl rfl rfl ?_
    refine hR _ _ _ _ _ _ dX6_setPrice_20 ?_ (by omega) (by omega)
    exact Or.inr (Or.inl ⟨by omega, rfl, rfl⟩)

abbrev rm_t_X6_value : Room := ({ frames := 1, cells := 0, slots := 0, locals := 22 } : Room)
set_option maxHeartbeats 4000000 in
set_option maxRecDepth 100000 in
theorem t_X6_value (l : Launch) (D : va_G) (ty : g_T3) (n0 np na nc nf nq no nx ny nl nh nb nw nt : Nat) (th cp pl tl av wr : Int32) (rs : Int64) (en : Int32) (f : Int64) (o : Int32) : g_U l yX6_value wsX6_value rm_t_X6_value D ty g_X0 [.ref n0, .long f, .int o] [(n0, .inr (5, [.int th, .ref np, .ref na, .int cp, .ref nc, .int en, .ref nf, .ref nq, .ref no, .ref nx, .ref ny, .ref nl, .ref nh, .ref nb, .ref nw, .int pl, .ref nt, .int tl, .int av, .int wr, .long rs]))] 0 0 (g_ui (fun r w => (∃ k, k ≤ 15 ∧ o = nI k ∧ r = nI (nib f k) ∧ w = [(n0, .inr (5, [.int (nI 0), .ref np, .ref na, .int cp, .ref nc, .int en, .ref nf, .ref nq, .ref no, .ref nx, .ref ny, .ref nl, .ref nh, .ref nb, .ref nw, .int pl, .ref nt, .int tl, .int av, .int wr, .long rs]))]) ∨ ((o.toInt < 0 ∨ 15 < o.toInt) ∧ r = nI 0 ∧ w = [(n0, .inr (5, [.int (nI 1), .ref np, .ref na, .int cp, .ref nc, .int en, .ref nf, .ref nq, .ref no, .ref nx, .ref ny, .ref nl, .ref nh, .ref nb, .ref nw, .int pl, .ref nt, .int tl, .int av, .int wr, .long rs]))]))) := by
  refine g_ofUi (cc := cX6_value) (nL := 4) (own := RX6) (by decide) rfl rfl g_X0_ok (Nat.le_of_ble_eq_true rfl) ?_
  intro p e s m args below meth c Q A C hA hX hin hR
  refine g_lv (lv' := [(0, .ref n0), (1, .long f), (3, .int o)]) [0, 1, 2] rfl ?_
  refine g_aload_n C dX6_value_0 0 rfl rfl ?_
  refine g_iconst C dX6_value_1 (v := (nI 0)) (by decide) ?_
  refine g_put C 0 rfl rfl 0 (by decide) (fun _ h => (List.mem_cons_of_mem _ (List.mem_append_right _ h))) 1 rfl rfl tyX6 tyX6_ok nmX6 rfl rfl rfl rfl (Nat.le_of_ble_eq_true rfl) (ws' := [(n0, .inr (5, [.int (nI 0), .ref np, .ref na, .int cp, .ref nc, .int en, .ref nf, .ref nq, .ref no, .ref nx, .ref ny, .ref nl, .ref nh, .ref nb, .ref nw, .int pl, .ref nt, .int tl, .int av, .int wr, .long rs]))]) rfl dX6_value_2 ?_
  refine g_iload_n C dX6_value_5 2 rfl rfl ?_
  refine g_iconst C dX6_value_6 (v := (nI 0)) (by decide) ?_
  refine g_bipush C dX6_value_7 (v := (nI 15)) (by decide) ?_
  refine g_callPS C ⟨g_X0_ok, trivial⟩ (t_X6_isIn l D ty o (nI 0) (nI 15)) rfl gX6_value_X6_isIn 3 (by decide +kernel) rfl ⟨rfl, rfl⟩ ⟨Nat.le_of_ble_eq_true rfl, Nat.le_of_ble_eq_true rfl⟩ (rest := []) [] rfl (Nat.le_of_ble_eq_true rfl) dX6_value_9 ⟨Nat.le_of_ble_eq_true rfl, Nat.le_of_ble_eq_true rfl⟩ rfl (g_ki (fun r hr => ?_))
  subst hr
  have := bt_lt (inB o (nI 0) (nI 15))
  refine g_if_eqN C dX6_value_12 (tgt := 23) (by decide) (by omega) (fun h12 => ?_) (fun h12 => ?_)
  · skip
    have hno := in_no (by decide) h12
    refine g_aload_n C dX6_value_23 0 rfl rfl ?_
    refine g_iconst C dX6_value_24 (v := (nI 1)) (by decide) ?_
    refine g_callUV C ⟨g_X0_ok, trivial⟩ (t_X6_no l D ty n0 np na nc nf nq no nx ny nl nh nb nw nt (nI 0) cp pl tl av wr rs en (nI 1)) rfl gX6_value_X6_no 1 (by decide +kernel) rfl ⟨rfl, rfl⟩ ⟨Nat.le_of_ble_eq_true rfl, Nat.le_of_ble_eq_true rfl⟩ (rest := []) (q0 := 0) rfl rfl hA [0] [] rfl rfl rfl (wr := []) rfl rfl rfl (Nat.le_of_ble_eq_true rfl) dX6_value_25 ⟨Nat.le_of_ble_eq_true rfl, Nat.le_of_ble_eq_true rfl⟩ rfl (g_kui (fun r w hr => ?_))
    obtain ⟨rfl, rfl⟩ := hr
    refine g_ws (ws' := [(n0, .inr (5, [.int (nI 1), .ref np, .ref na, .int cp, .ref nc, .int en, .ref nf, .ref nq, .ref no, .ref nx, .ref ny, .ref nl, .ref nh, .ref nb, .ref nw, .int pl, .ref nt, .int tl, .int av, .int wr, .long rs]))]) [0] rfl rfl rfl ?_
    refine hR _ _ _ _ _ _ dX6_value_28 ?_ (by omega) (by omega)
    first | exact Or.inl ⟨k, hk, rfl, rfl, rfl⟩ | exact Or.inr ⟨by omega, rfl, rfl⟩
  · skip
    obtain ⟨k, hk, rfl⟩ := in_nI (by decide) h12
    refine g_lload_n C dX6_value_15 1 rfl rfl ?_
    refine g_iload_n C dX6_value_16 2 rfl rfl ?_
    refine g_callPS C ⟨g_X0_ok, trivial⟩ (t_X6_at l D ty f k (by omega)) rfl gX6_value_X6_at 2 (by decide +kernel) rfl ⟨rfl, rfl⟩ ⟨Nat.le_of_ble_eq_true rfl, Nat.le_of_ble_eq_true rfl⟩ (rest := []) [] rfl (Nat.le_of_ble_eq_true rfl) dX6_value_17 ⟨Nat.le_of_ble_eq_true rfl, Nat.le_of_ble_eq_true rfl⟩ rfl (g_ki (fun r hr => ?_))
    subst hr
    have := nib_lt f k
    refine g_goto C dX6_value_20 (tgt := 28) (by decide) ?_
    refine hR _ _ _ _ _ _ dX6_value_28 ?_ (by omega) (by omega)
    first | exact Or.inl ⟨k, hk, rfl, rfl, rfl⟩ | exact Or.inr ⟨by omega, rfl, rfl⟩

abbrev rm_t_X6_apply : Room := ({ frames := 2, cells := 0, slots := 0, locals := 49 } : Room)
set_option maxHeartbeats 4000000 in
set_option maxRecDepth 100000 in
theorem t_X6_apply (l : Launch) (D : va_G) (ty : g_T3) (n0 np na nc nf nq no nx ny nl nh nb nw nt : Nat) (th cp pl tl av wr : Int32) (rs : Int64) (en : Int32) (o : Int32) (f g : Int64) : g_U l yX6_apply wsX6_apply rm_t_X6_apply D ty g_X0 [.ref n0, .int o, .long f, .long g] [(n0, .inr (5, [.int th, .ref np, .ref na, .int cp, .ref nc, .int en, .ref nf, .ref nq, .ref no, .ref nx, .ref ny, .ref nl, .ref nh, .ref nb, .ref nw, .int pl, .ref nt, .int tl, .int av, .int wr, .long rs]))] 0 0 (g_ul (fun r w => (∃ k, k ≤ 9 ∧ o = nI k ∧ r = maF k f g ∧ w = [(n0, .inr (5, [.int (nI 0), .ref np, .ref na, .int cp, .ref nc, .int en, .ref nf, .ref nq, .ref no, .ref nx, .ref ny, .ref nl, .ref nh, .ref nb, .ref nw, .int pl, .ref nt, .int tl, .int av, .int wr, .long rs]))]) ∨ ((o.toInt < 0 ∨ 9 < o.toInt) ∧ r = 0 ∧ w = [(n0, .inr (5, [.int (nI 1), .ref np, .ref na, .int cp, .ref nc, .int en, .ref nf, .ref nq, .ref no, .ref nx, .ref ny, .ref nl, .ref nh, .ref nb, .ref nw, .int pl, .ref nt, .int tl, .int av, .int wr, .long rs]))]))) := by
  refine g_ofUl (cc := cX6_apply) (nL := 6) (own := RX6) (by decide) rfl rfl g_X0_ok (Nat.le_of_ble_eq_true rfl) ?_
  intro p e s m args below meth c Q A C hA hX hin hR
  refine g_lv (lv' := [(0, .ref n0), (1, .int o), (2, .long f), (4, .long g)]) [0, 1, 2, 3] rfl ?_
  refine g_aload_n C dX6_apply_0 0 rfl rfl ?_
  refine g_iload_n C dX6_apply_1 1 rfl rfl ?_
  refine g_iconst C dX6_apply_2 (v := (nI 0)) (by decide) ?_
  refine g_bipush C dX6_apply_3 (v := (nI 9)) (by decide) ?_
  refine g_callPS C ⟨g_X0_ok, trivial⟩ (t_X6_isIn l D ty o (nI 0) (nI 9)) rfl gX6_apply_X6_isIn 3 (by decide +kernel) rfl ⟨rfl, rfl⟩ ⟨Nat.le_of_ble_eq_true rfl, Nat.le_of_ble_eq_true rfl⟩ (rest := [.ref n0]) [] rfl (Nat.le_of_ble_eq_true rfl) dX6_apply_5 ⟨Nat.le_of_ble_eq_true rfl, Nat.le_of_ble_eq_true rfl⟩ rfl (g_ki (fun r hr => ?_))
  subst hr
  have := bt_lt (inB o (nI 0) (nI 9))
  refine g_if_eqN C dX6_apply_8 (tgt := 15) (by decide) (by omega) (fun h8 => ?_) (fun h8 => ?_)
  · skip
    refine g_iconst C dX6_apply_15 (v := (nI 1)) (by decide) ?_
    have L16 : ∀ (n9 : Nat) (tv : Nat), 0 < n9 → ((tv = 0 ∧ ∃ k, k ≤ 9 ∧ o = nI k) ∨ (tv = 1 ∧ (o.toInt < 0 ∨ 9 < o.toInt))) → (tv ≤ 1) → gG (g_IU A D s) p l e rm_t_X6_apply s m args below meth c Q 6 0 0 16 [(0, .ref n0), (1, .int o), (2, .long f), (4, .long g)] [.int (nI tv), .ref n0] [(n0, .inr (5, [.int th, .ref np, .ref na, .int cp, .ref nc, .int en, .ref nf, .ref nq, .ref no, .ref nx, .ref ny, .ref nl, .ref nh, .ref nb, .ref nw, .int pl, .ref nt, .int tl, .int av, .int wr, .long rs]))] := by
      intro n9
      induction n9 with
      | zero => intro tv hn; exact absurd hn (Nat.not_lt_zero _)
      | succ n9 ih16 =>
        intro tv hn16 htv ht1
        refine g_put C 0 rfl rfl 0 (by decide) (fun _ h => (List.mem_cons_of_mem _ (List.mem_append_right _ h))) 1 rfl rfl tyX6 tyX6_ok nmX6 rfl rfl rfl rfl (Nat.le_of_ble_eq_true rfl) (ws' := [(n0, .inr (5, [.int (nI tv), .ref np, .ref na, .int cp, .ref nc, .int en, .ref nf, .ref nq, .ref no, .ref nx, .ref ny, .ref nl, .ref nh, .ref nb, .ref nw, .int pl, .ref nt, .int tl, .int av, .int wr, .long rs]))]) rfl dX6_apply_16 ?_
        refine g_aload_n C dX6_apply_19 0 rfl rfl ?_
        refine g_get C 0 rfl rfl 0 (by decide) (fun _ h => (List.mem_cons_of_mem _ (List.mem_append_right _ h))) 1 rfl rfl rfl dX6_apply_20 ?_
        refine g_if_neN C dX6_apply_23 (tgt := 36) (by decide) (by omega) (fun h23 => ?_) (fun h23 => ?_)
        · skip
          have hno := (htv.resolve_left (fun z => by have := z.1; omega)).2
          obtain rfl : tv = 1 := by omega
          refine g_lconst C dX6_apply_36 (v := 0) (by decide) ?_
          refine hR _ _ _ _ _ _ dX6_apply_37 ?_ (by omega) (by omega)
          first | exact Or.inl ⟨k, hk, rfl, rfl, rfl⟩ | exact Or.inr ⟨hno, rfl, rfl⟩
        · skip
          obtain ⟨k, hk, rfl⟩ := (htv.resolve_right (fun z => by have := z.1; omega)).2
          obtain rfl : tv = 0 := by omega
          refine g_iload_n C dX6_apply_26 1 rfl rfl ?_
          refine g_lload_n C dX6_apply_27 2 rfl rfl ?_
          refine g_lload C dX6_apply_28 3 rfl ?_
          refine g_callPS C ⟨g_X0_ok, trivial⟩ (t_X6_made l D ty k (by omega) f g) rfl gX6_apply_X6_made 3 (by decide +kernel) rfl ⟨rfl, rfl⟩ ⟨Nat.le_of_ble_eq_true rfl, Nat.le_of_ble_eq_true rfl⟩ (rest := []) [] rfl (Nat.le_of_ble_eq_true rfl) dX6_apply_30 ⟨Nat.le_of_ble_eq_true rfl, Nat.le_of_ble_eq_true rfl⟩ rfl (g_kl (fun r hr => ?_))
          subst hr
          rw [md_ma (by omega)]
          refine g_goto C dX6_apply_33 (tgt := 37) (by decide) ?_
          refine hR _ _ _ _ _ _ dX6_apply_37 ?_ (by omega) (by omega)
          first | exact Or.inl ⟨k, hk, rfl, rfl, rfl⟩ | exact Or.inr ⟨hno, rfl, rfl⟩
    exact L16 _ _ (Nat.lt_succ_self _) (by first | exact Or.inr ⟨rfl, in_no (by decide) h8⟩ | exact Or.inl ⟨rfl, in_nI (by decide) h8⟩) (by decide)
  · skip
    refine g_iconst C dX6_apply_11 (v := (nI 0)) (by decide) ?_
    refine g_goto C dX6_apply_12 (tgt := 16) (by decide) ?_
    have L16 : ∀ (n9 : Nat) (tv : Nat), 0 < n9 → ((tv = 0 ∧ ∃ k, k ≤ 9 ∧ o = nI k) ∨ (tv = 1 ∧ (o.toInt < 0 ∨ 9 < o.toInt))) → (tv ≤ 1) → gG (g_IU A D s) p l e rm_t_X6_apply s m args below meth c Q 6 0 0 16 [(0, .ref n0), (1, .int o), (2, .long f), (4, .long g)] [.int (nI tv), .ref n0] [(n0, .inr (5, [.int th, .ref np, .ref na, .int cp, .ref nc, .int en, .ref nf, .ref nq, .ref no, .ref nx, .ref ny, .ref nl, .ref nh, .ref nb, .ref nw, .int pl, .ref nt, .int tl, .int av, .int wr, .long rs]))] := by
      intro n9
      induction n9 with
      | zero => intro tv hn; exact absurd hn (Nat.not_lt_zero _)
      | succ n9 ih16 =>
        intro tv hn16 htv ht1
        refine g_put C 0 rfl rfl 0 (by decide) (fun _ h => (List.mem_cons_of_mem _ (List.mem_append_right _ h))) 1 rfl rfl tyX6 tyX6_ok nmX6 rfl rfl rfl rfl (Nat.le_of_ble_eq_true rfl) (ws' := [(n0, .inr (5, [.int (nI tv), .ref np, .ref na, .int cp, .ref nc, .int en, .ref nf, .ref nq, .ref no, .ref nx, .ref ny, .ref nl, .ref nh, .ref nb, .ref nw, .int pl, .ref nt, .int tl, .int av, .int wr, .long rs]))]) rfl dX6_apply_16 ?_
        refine g_aload_n C dX6_apply_19 0 rfl rfl ?_
        refine g_get C 0 rfl rfl 0 (by decide) (fun _ h => (List.mem_cons_of_mem _ (List.mem_append_right _ h))) 1 rfl rfl rfl dX6_apply_20 ?_
        refine g_if_neN C dX6_apply_23 (tgt := 36) (by decide) (by omega) (fun h23 => ?_) (fun h23 => ?_)
        · skip
          have hno := (htv.resolve_left (fun z => by have := z.1; omega)).2
          obtain rfl : tv = 1 := by omega
          refine g_lconst C dX6_apply_36 (v := 0) (by decide) ?_
          refine hR _ _ _ _ _ _ dX6_apply_37 ?_ (by omega) (by omega)
          first | exact Or.inl ⟨k, hk, rfl, rfl, rfl⟩ | exact Or.inr ⟨hno, rfl, rfl⟩
        · skip
          obtain ⟨k, hk, rfl⟩ := (htv.resolve_right (fun z => by have := z.1; omega)).2
          obtain rfl : tv = 0 := by omega
          refine g_iload_n C dX6_apply_26 1 rfl rfl ?_
          refine g_lload_n C dX6_apply_27 2 rfl rfl ?_
          refine g_lload C dX6_apply_28 3 rfl ?_
          refine g_callPS C ⟨g_X0_ok, trivial⟩ (t_X6_made l D ty k (by omega) f g) rfl gX6_apply_X6_made 3 (by decide +kernel) rfl ⟨rfl, rfl⟩ ⟨Nat.le_of_ble_eq_true rfl, Nat.le_of_ble_eq_true rfl⟩ (rest := []) [] rfl (Nat.le_of_ble_eq_true rfl) dX6_apply_30 ⟨Nat.le_of_ble_eq_true rfl, Nat.le_of_ble_eq_true rfl⟩ rfl (g_kl (fun r hr => ?_))
          subst hr
          rw [md_ma (by omega)]
          refine g_goto C dX6_apply_33 (tgt := 37) (by decide) ?_
          refine hR _ _ _ _ _ _ dX6_apply_37 ?_ (by omega) (by omega)
          first | exact Or.inl ⟨k, hk, rfl, rfl, rfl⟩ | exact Or.inr ⟨hno, rfl, rfl⟩
    exact L16 _ _ (Nat.lt_succ_self _) (by first | exact Or.inr ⟨rfl, in_no (by decide) h8⟩ | exact Or.inl ⟨rfl, in_nI (by decide) h8⟩) (by decide)

abbrev rm_t_X6_compose : Room := ({ frames := 1, cells := 0, slots := 0, locals := 22 } : Room)
set_option maxHeartbeats 4000000 in
set_option maxRecDepth 100000 in
theorem t_X6_compose (l : Launch) (D : va_G) (ty : g_T3) (n0 np na nc nf nq no nx ny nl nh nb nw nt : Nat) (th cp pl tl av wr : Int32) (rs : Int64) (en : Int32) (f g : Int64) : g_U l yX6_compose wsX6_compose rm_t_X6_compose D ty g_X0 [.ref n0, .long f, .long g] [(n0, .inr (5, [.int th, .ref np, .ref na, .int cp, .ref nc, .int en, .ref nf, .ref nq, .ref no, .ref nx, .ref ny, .ref nl, .ref nh, .ref nb, .ref nw, .int pl, .ref nt, .int tl, .int av, .int wr, .long rs]))] 0 0 (g_ul (fun r w => r = afN f g 16 ∧ w = [(n0, .inr (5, [.int (nI 0), .ref np, .ref na, .int cp, .ref nc, .int en, .ref nf, .ref nq, .ref no, .ref nx, .ref ny, .ref nl, .ref nh, .ref nb, .ref nw, .int pl, .ref nt, .int tl, .int av, .int wr, .long rs]))])) := by
  refine g_ofUl (cc := cX6_compose) (nL := 8) (own := RX6) (by decide) rfl rfl g_X0_ok (Nat.le_of_ble_eq_true rfl) ?_
  intro p e s m args below meth c Q A C hA hX hin hR
  refine g_lv (lv' := [(0, .ref n0), (1, .long f), (3, .long g)]) [0, 1, 2] rfl ?_
  refine g_aload_n C dX6_compose_0 0 rfl rfl ?_
  refine g_iconst C dX6_compose_1 (v := (nI 0)) (by decide) ?_
  refine g_put C 0 rfl rfl 0 (by decide) (fun _ h => (List.mem_cons_of_mem _ (List.mem_append_right _ h))) 1 rfl rfl tyX6 tyX6_ok nmX6 rfl rfl rfl rfl (Nat.le_of_ble_eq_true rfl) (ws' := [(n0, .inr (5, [.int (nI 0), .ref np, .ref na, .int cp, .ref nc, .int en, .ref nf, .ref nq, .ref no, .ref nx, .ref ny, .ref nl, .ref nh, .ref nb, .ref nw, .int pl, .ref nt, .int tl, .int av, .int wr, .long rs]))]) rfl dX6_compose_2 ?_
  refine g_lconst C dX6_compose_5 (v := 0) (by decide) ?_
  refine g_lstore C dX6_compose_6 (by decide) (lv' := [(5, .long 0), (0, .ref n0), (1, .long f), (3, .long g)]) rfl ?_
  refine g_iconst C dX6_compose_8 (v := (nI 0)) (by decide) ?_
  refine g_istore C dX6_compose_9 (by decide) (lv' := [(7, .int (nI 0)), (5, .long 0), (0, .ref n0), (1, .long f), (3, .long g)]) rfl ?_
  have L11 : ∀ (n9 : Nat) (i : Nat), 16 - i < n9 → (i ≤ 16) → gG (g_IU A D s) p l e rm_t_X6_compose s m args below meth c Q 8 0 0 11 [(7, .int (nI i)), (5, .long (afN f g i)), (0, .ref n0), (1, .long f), (3, .long g)] [] [(n0, .inr (5, [.int (nI 0), .ref np, .ref na, .int cp, .ref nc, .int en, .ref nf, .ref nq, .ref no, .ref nx, .ref ny, .ref nl, .ref nh, .ref nb, .ref nw, .int pl, .ref nt, .int tl, .int av, .int wr, .long rs]))] := by
    intro n9
    induction n9 with
    | zero => intro i hn; exact absurd hn (Nat.not_lt_zero _)
    | succ n9 ih11 =>
      intro i hn11 hi
      refine g_iload C dX6_compose_11 0 rfl ?_
      refine g_bipush C dX6_compose_13 (v := (nI 16)) (by decide) ?_
      refine g_icmp_geN C dX6_compose_15 (tgt := 45) (by decide) (by omega) (by omega) (fun h15 => ?_) (fun h15 => ?_)
      · skip
        obtain rfl : i = 16 := by omega
        refine g_lload C dX6_compose_45 1 rfl ?_
        refine hR _ _ _ _ _ _ dX6_compose_47 ?_ (by omega) (by omega)
        exact ⟨rfl, rfl⟩
      · skip
        refine g_lload C dX6_compose_18 1 rfl ?_
        refine g_lload_n C dX6_compose_20 3 rfl rfl ?_
        refine g_lload_n C dX6_compose_21 4 rfl rfl ?_
        refine g_iload C dX6_compose_22 0 rfl ?_
        refine g_callPS C ⟨g_X0_ok, trivial⟩ (t_X6_at l D ty g i (by omega)) rfl gX6_compose_X6_at 2 (by decide +kernel) rfl ⟨rfl, rfl⟩ ⟨Nat.le_of_ble_eq_true rfl, Nat.le_of_ble_eq_true rfl⟩ (rest := [.long f, .long (afN f g i)]) [] rfl (Nat.le_of_ble_eq_true rfl) dX6_compose_24 ⟨Nat.le_of_ble_eq_true rfl, Nat.le_of_ble_eq_true rfl⟩ rfl (g_ki (fun r hr => ?_))
        subst hr
        have := nib_lt g i
        refine g_callPS C ⟨g_X0_ok, trivial⟩ (t_X6_at l D ty f (nib g i) (by omega)) rfl gX6_compose_X6_at 2 (by decide +kernel) rfl ⟨rfl, rfl⟩ ⟨Nat.le_of_ble_eq_true rfl, Nat.le_of_ble_eq_true rfl⟩ (rest := [.long (afN f g i)]) [] rfl (Nat.le_of_ble_eq_true rfl) dX6_compose_27 ⟨Nat.le_of_ble_eq_true rfl, Nat.le_of_ble_eq_true rfl⟩ rfl (g_ki (fun r hr => ?_))
        subst hr
        have := nib_lt f (nib g i)
        refine g_i2l C dX6_compose_30 (v := (Int32.toInt64 (nI (nib f (nib g i))))) rfl ?_
        refine g_iconst C dX6_compose_31 (v := (nI 4)) (by decide) ?_
        refine g_iload C dX6_compose_32 0 rfl ?_
        refine g_imul C dX6_compose_34 (v := (nI (4 * i))) (pk_mul _ _) ?_
        refine g_lshl C dX6_compose_35 (v := (j_shl (Int32.toInt64 (nI (nib f (nib g i)))) (nI (4 * i)))) rfl ?_
        refine g_lor C dX6_compose_36 (v := (afN f g (i + 1))) rfl ?_
        refine g_lstore C dX6_compose_37 (by decide) (lv' := [(5, .long (afN f g (i + 1))), (7, .int (nI i)), (0, .ref n0), (1, .long f), (3, .long g)]) rfl ?_
        refine g_iinc C dX6_compose_39 1 rfl (v := (nI (i + 1))) (nI_1 i) (by decide) (lv' := [(7, .int (nI (i + 1))), (5, .long (afN f g (i + 1))), (0, .ref n0), (1, .long f), (3, .long g)]) rfl ?_
        refine g_goto C dX6_compose_42 (tgt := 11) (by decide) ?_
        exact ih11 (i + 1) (by omega) (by omega)
  exact L11 _ 0 (Nat.lt_succ_self _) (by omega)

abbrev rm_t_X6_inverse : Room := ({ frames := 2, cells := 0, slots := 0, locals := 45 } : Room)
set_option maxHeartbeats 4000000 in
set_option maxRecDepth 100000 in
theorem t_X6_inverse (l : Launch) (D : va_G) (ty : g_T3) (n0 np na nc nf nq no nx ny nl nh nb nw nt : Nat) (th cp pl tl av wr : Int32) (rs : Int64) (en : Int32) (f : Int64) : g_U l yX6_inverse wsX6_inverse rm_t_X6_inverse D ty g_X0 [.ref n0, .long f] [(n0, .inr (5, [.int th, .ref np, .ref na, .int cp, .ref nc, .int en, .ref nf, .ref nq, .ref no, .ref nx, .ref ny, .ref nl, .ref nh, .ref nb, .ref nw, .int pl, .ref nt, .int tl, .int av, .int wr, .long rs]))] 0 0 (g_ul (fun r w => ((ibc (nI (imF f 65535))).toInt = 16 ∧ r = ivN f 16 ∧ w = [(n0, .inr (5, [.int (nI 0), .ref np, .ref na, .int cp, .ref nc, .int en, .ref nf, .ref nq, .ref no, .ref nx, .ref ny, .ref nl, .ref nh, .ref nb, .ref nw, .int pl, .ref nt, .int tl, .int av, .int wr, .long rs]))]) ∨ (¬ (ibc (nI (imF f 65535))).toInt = 16 ∧ r = 0 ∧ w = [(n0, .inr (5, [.int (nI 1), .ref np, .ref na, .int cp, .ref nc, .int en, .ref nf, .ref nq, .ref no, .ref nx, .ref ny, .ref nl, .ref nh, .ref nb, .ref nw, .int pl, .ref nt, .int tl, .int av, .int wr, .long rs]))]))) := by
  refine g_ofUl (cc := cX6_inverse) (nL := 6) (own := RX6) (by decide) rfl rfl g_X0_ok (Nat.le_of_ble_eq_true rfl) ?_
  intro p e s m args below meth c Q A C hA hX hin hR
  refine g_lv (lv' := [(0, .ref n0), (1, .long f)]) [0, 1] rfl ?_
  refine g_aload_n C dX6_inverse_0 0 rfl rfl ?_
  refine g_lload_n C dX6_inverse_1 1 rfl rfl ?_
  refine g_callPS C ⟨g_X0_ok, trivial⟩ (t_X6_values l D ty f) rfl gX6_inverse_X6_values 1 (by decide +kernel) rfl ⟨rfl, rfl⟩ ⟨Nat.le_of_ble_eq_true rfl, Nat.le_of_ble_eq_true rfl⟩ (rest := [.ref n0]) [] rfl (Nat.le_of_ble_eq_true rfl) dX6_inverse_2 ⟨Nat.le_of_ble_eq_true rfl, Nat.le_of_ble_eq_true rfl⟩ rfl (g_ki (fun r hr => ?_))
  subst hr
  refine g_bipush C dX6_inverse_5 (v := (nI 16)) (by decide) ?_
  refine g_icmp_ne C dX6_inverse_7 (tgt := 14) (by decide) (fun h7 => ?_) (fun h7 => ?_)
  · skip
    refine g_iconst C dX6_inverse_14 (v := (nI 1)) (by decide) ?_
    have L15 : ∀ (n9 : Nat) (tv : Nat), 0 < n9 → ((tv = 0 ∧ (ibc (nI (imF f 65535))).toInt = 16) ∨ (tv = 1 ∧ ¬ (ibc (nI (imF f 65535))).toInt = 16)) → (tv ≤ 1) → gG (g_IU A D s) p l e rm_t_X6_inverse s m args below meth c Q 6 0 0 15 [(0, .ref n0), (1, .long f)] [.int (nI tv), .ref n0] [(n0, .inr (5, [.int th, .ref np, .ref na, .int cp, .ref nc, .int en, .ref nf, .ref nq, .ref no, .ref nx, .ref ny, .ref nl, .ref nh, .ref nb, .ref nw, .int pl, .ref nt, .int tl, .int av, .int wr, .long rs]))] := by
      intro n9
      induction n9 with
      | zero => intro tv hn; exact absurd hn (Nat.not_lt_zero _)
      | succ n9 ih15 =>
        intro tv hn15 htv ht1
        refine g_put C 0 rfl rfl 0 (by decide) (fun _ h => (List.mem_cons_of_mem _ (List.mem_append_right _ h))) 1 rfl rfl tyX6 tyX6_ok nmX6 rfl rfl rfl rfl (Nat.le_of_ble_eq_true rfl) (ws' := [(n0, .inr (5, [.int (nI tv), .ref np, .ref na, .int cp, .ref nc, .int en, .ref nf, .ref nq, .ref no, .ref nx, .ref ny, .ref nl, .ref nh, .ref nb, .ref nw, .int pl, .ref nt, .int tl, .int av, .int wr, .long rs]))]) rfl dX6_inverse_15 ?_
        refine g_aload_n C dX6_inverse_18 0 rfl rfl ?_
        refine g_get C 0 rfl rfl 0 (by decide) (fun _ h => (List.mem_cons_of_mem _ (List.mem_append_right _ h))) 1 rfl rfl rfl dX6_inverse_19 ?_
        refine g_if_eqN C dX6_inverse_22 (tgt := 27) (by decide) (by omega) (fun h22 => ?_) (fun h22 => ?_)
        · skip
          obtain h16 := (htv.resolve_right (fun z => by have := z.1; omega)).2
          obtain rfl : tv = 0 := by omega
          refine g_lconst C dX6_inverse_27 (v := 0) (by decide) ?_
          refine g_lstore_n C dX6_inverse_28 rfl (by decide) (lv' := [(3, .long 0), (0, .ref n0), (1, .long f)]) rfl ?_
          refine g_iconst C dX6_inverse_29 (v := (nI 0)) (by decide) ?_
          refine g_istore C dX6_inverse_30 (by decide) (lv' := [(5, .int (nI 0)), (3, .long 0), (0, .ref n0), (1, .long f)]) rfl ?_
          have L32 : ∀ (n9 : Nat) (i : Nat), 16 - i < n9 → (i ≤ 16) → gG (g_IU A D s) p l e rm_t_X6_inverse s m args below meth c Q 6 0 0 32 [(5, .int (nI i)), (3, .long (ivN f i)), (0, .ref n0), (1, .long f)] [] [(n0, .inr (5, [.int (nI 0), .ref np, .ref na, .int cp, .ref nc, .int en, .ref nf, .ref nq, .ref no, .ref nx, .ref ny, .ref nl, .ref nh, .ref nb, .ref nw, .int pl, .ref nt, .int tl, .int av, .int wr, .long rs]))] := by
            intro n9
            induction n9 with
            | zero => intro i hn; exact absurd hn (Nat.not_lt_zero _)
            | succ n9 ih32 =>
              intro i hn32 hi
              refine g_iload C dX6_inverse_32 0 rfl ?_
              refine g_bipush C dX6_inverse_34 (v := (nI 16)) (by decide) ?_
              refine g_icmp_geN C dX6_inverse_36 (tgt := 60) (by decide) (by omega) (by omega) (fun h36 => ?_) (fun h36 => ?_)
              · skip
                obtain rfl : i = 16 := by omega
                refine g_lload_n C dX6_inverse_60 1 rfl rfl ?_
                refine hR _ _ _ _ _ _ dX6_inverse_61 ?_ (by omega) (by omega)
                exact Or.inl ⟨h16, rfl, rfl⟩
              · skip
                refine g_lload_n C dX6_inverse_39 1 rfl rfl ?_
                refine g_iload C dX6_inverse_40 0 rfl ?_
                refine g_i2l C dX6_inverse_42 (v := (Int32.toInt64 (nI i))) rfl ?_
                refine g_iconst C dX6_inverse_43 (v := (nI 4)) (by decide) ?_
                refine g_lload_n C dX6_inverse_44 3 rfl rfl ?_
                refine g_iload C dX6_inverse_45 0 rfl ?_
                refine g_callPS C ⟨g_X0_ok, trivial⟩ (t_X6_at l D ty f i (by omega)) rfl gX6_inverse_X6_at 2 (by decide +kernel) rfl ⟨rfl, rfl⟩ ⟨Nat.le_of_ble_eq_true rfl, Nat.le_of_ble_eq_true rfl⟩ (rest := [.int (nI 4), .long (Int32.toInt64 (nI i)), .long (ivN f i)]) [] rfl (Nat.le_of_ble_eq_true rfl) dX6_inverse_47 ⟨Nat.le_of_ble_eq_true rfl, Nat.le_of_ble_eq_true rfl⟩ rfl (g_ki (fun r hr => ?_))
                subst hr
                have := nib_lt f i
                refine g_imul C dX6_inverse_50 (v := (nI (4 * (nib f i)))) (pk_mul _ _) ?_
                refine g_lshl C dX6_inverse_51 (v := (j_shl (Int32.toInt64 (nI i)) (nI (4 * (nib f i))))) rfl ?_
                refine g_lor C dX6_inverse_52 (v := (ivN f (i + 1))) rfl ?_
                refine g_lstore_n C dX6_inverse_53 rfl (by decide) (lv' := [(3, .long (ivN f (i + 1))), (5, .int (nI i)), (0, .ref n0), (1, .long f)]) rfl ?_
                refine g_iinc C dX6_inverse_54 1 rfl (v := (nI (i + 1))) (nI_1 i) (by decide) (lv' := [(5, .int (nI (i + 1))), (3, .long (ivN f (i + 1))), (0, .ref n0), (1, .long f)]) rfl ?_
                refine g_goto C dX6_inverse_57 (tgt := 32) (by decide) ?_
                exact ih32 (i + 1) (by omega) (by omega)
          exact L32 _ 0 (Nat.lt_succ_self _) (by omega)
        · skip
          have hno := (htv.resolve_left (fun z => by have := z.1; omega)).2
          obtain rfl : tv = 1 := by omega
          refine g_lconst C dX6_inverse_25 (v := 0) (by decide) ?_
          refine hR _ _ _ _ _ _ dX6_inverse_26 ?_ (by omega) (by omega)
          exact Or.inr ⟨hno, rfl, rfl⟩
    exact L15 _ _ (Nat.lt_succ_self _) (by first | exact Or.inr ⟨rfl, by rw [nI_toInt (by decide)] at h7; exact h7⟩ | exact Or.inl ⟨rfl, by rw [nI_toInt (by decide)] at h7; exact h7⟩) (by decide)
  · skip
    refine g_iconst C dX6_inverse_10 (v := (nI 0)) (by decide) ?_
    refine g_goto C dX6_inverse_11 (tgt := 15) (by decide) ?_
    have L15 : ∀ (n9 : Nat) (tv : Nat), 0 < n9 → ((tv = 0 ∧ (ibc (nI (imF f 65535))).toInt = 16) ∨ (tv = 1 ∧ ¬ (ibc (nI (imF f 65535))).toInt = 16)) → (tv ≤ 1) → gG (g_IU A D s) p l e rm_t_X6_inverse s m args below meth c Q 6 0 0 15 [(0, .ref n0), (1, .long f)] [.int (nI tv), .ref n0] [(n0, .inr (5, [.int th, .ref np, .ref na, .int cp, .ref nc, .int en, .ref nf, .ref nq, .ref no, .ref nx, .ref ny, .ref nl, .ref nh, .ref nb, .ref nw, .int pl, .ref nt, .int tl, .int av, .int wr, .long rs]))] := by
      intro n9
      induction n9 with
      | zero => intro tv hn; exact absurd hn (Nat.not_lt_zero _)
      | succ n9 ih15 =>
        intro tv hn15 htv ht1
        refine g_put C 0 rfl rfl 0 (by decide) (fun _ h => (List.mem_cons_of_mem _ (List.mem_append_right _ h))) 1 rfl rfl tyX6 tyX6_ok nmX6 rfl rfl rfl rfl (Nat.le_of_ble_eq_true rfl) (ws' := [(n0, .inr (5, [.int (nI tv), .ref np, .ref na, .int cp, .ref nc, .int en, .ref nf, .ref nq, .ref no, .ref nx, .ref ny, .ref nl, .ref nh, .ref nb, .ref nw, .int pl, .ref nt, .int tl, .int av, .int wr, .long rs]))]) rfl dX6_inverse_15 ?_
        refine g_aload_n C dX6_inverse_18 0 rfl rfl ?_
        refine g_get C 0 rfl rfl 0 (by decide) (fun _ h => (List.mem_cons_of_mem _ (List.mem_append_right _ h))) 1 rfl rfl rfl dX6_inverse_19 ?_
        refine g_if_eqN C dX6_inverse_22 (tgt := 27) (by decide) (by omega) (fun h22 => ?_) (fun h22 => ?_)
        · skip
          obtain h16 := (htv.resolve_right (fun z => by have := z.1; omega)).2
          obtain rfl : tv = 0 := by omega
          refine g_lconst C dX6_inverse_27 (v := 0) (by decide) ?_
          refine g_lstore_n C dX6_inverse_28 rfl (by decide) (lv' := [(3, .long 0), (0, .ref n0), (1, .long f)]) rfl ?_
          refine g_iconst C dX6_inverse_29 (v := (nI 0)) (by decide) ?_
          refine g_istore C dX6_inverse_30 (by decide) (lv' := [(5, .int (nI 0)), (3, .long 0), (0, .ref n0), (1, .long f)]) rfl ?_
          have L32 : ∀ (n9 : Nat) (i : Nat), 16 - i < n9 → (i ≤ 16) → gG (g_IU A D s) p l e rm_t_X6_inverse s m args below meth c Q 6 0 0 32 [(5, .int (nI i)), (3, .long (ivN f i)), (0, .ref n0), (1, .long f)] [] [(n0, .inr (5, [.int (nI 0), .ref np, .ref na, .int cp, .ref nc, .int en, .ref nf, .ref nq, .ref no, .ref nx, .ref ny, .ref nl, .ref nh, .ref nb, .ref nw, .int pl, .ref nt, .int tl, .int av, .int wr, .long rs]))] := by
            intro n9
            induction n9 with
            | zero => intro i hn; exact absurd hn (Nat.not_lt_zero _)
            | succ n9 ih32 =>
              intro i hn32 hi
              refine g_iload C dX6_inverse_32 0 rfl ?_
              refine g_bipush C dX6_inverse_34 (v := (nI 16)) (by decide) ?_
              refine g_icmp_geN C dX6_inverse_36 (tgt := 60) (by decide) (by omega) (by omega) (fun h36 => ?_) (fun h36 => ?_)
              · skip
                obtain rfl : i = 16 := by omega
                refine g_lload_n C dX6_inverse_60 1 rfl rfl ?_
                refine hR _ _ _ _ _ _ dX6_inverse_61 ?_ (by omega) (by omega)
                exact Or.inl ⟨h16, rfl, rfl⟩
              · skip
                refine g_lload_n C dX6_inverse_39 1 rfl rfl ?_
                refine g_iload C dX6_inverse_40 0 rfl ?_
                refine g_i2l C dX6_inverse_42 (v := (Int32.toInt64 (nI i))) rfl ?_
                refine g_iconst C dX6_inverse_43 (v := (nI 4)) (by decide) ?_
                refine g_lload_n C dX6_inverse_44 3 rfl rfl ?_
                refine g_iload C dX6_inverse_45 0 rfl ?_
                refine g_callPS C ⟨g_X0_ok, trivial⟩ (t_X6_at l D ty f i (by omega)) rfl gX6_inverse_X6_at 2 (by decide +kernel) rfl ⟨rfl, rfl⟩ ⟨Nat.le_of_ble_eq_true rfl, Nat.le_of_ble_eq_true rfl⟩ (rest := [.int (nI 4), .long (Int32.toInt64 (nI i)), .long (ivN f i)]) [] rfl (Nat.le_of_ble_eq_true rfl) dX6_inverse_47 ⟨Nat.le_of_ble_eq_true rfl, Nat.le_of_ble_eq_true rfl⟩ rfl (g_ki (fun r hr => ?_))
                subst hr
                have := nib_lt f i
                refine g_imul C dX6_inverse_50 (v := (nI (4 * (nib f i)))) (pk_mul _ _) ?_
                refine g_lshl C dX6_inverse_51 (v := (j_shl (Int32.toInt64 (nI i)) (nI (4 * (nib f i))))) rfl ?_
                refine g_lor C dX6_inverse_52 (v := (ivN f (i + 1))) rfl ?_
                refine g_lstore_n C dX6_inverse_53 rfl (by decide) (lv' := [(3, .long (ivN f (i + 1))), (5, .int (nI i)), (0, .ref n0), (1, .long f)]) rfl ?_
                refine g_iinc C dX6_inverse_54 1 rfl (v := (nI (i + 1))) (nI_1 i) (by decide) (lv' := [(5, .int (nI (i + 1))), (3, .long (ivN f (i + 1))), (0, .ref n0), (1, .long f)]) rfl ?_
                refine g_goto C dX6_inverse_57 (tgt := 32) (by decide) ?_
                exact ih32 (i + 1) (by omega) (by omega)
          exact L32 _ 0 (Nat.lt_succ_self _) (by omega)
        · skip
          have hno := (htv.resolve_left (fun z => by have := z.1; omega)).2
          obtain rfl : tv = 1 := by omega
          refine g_lconst C dX6_inverse_25 (v := 0) (by decide) ?_
          refine hR _ _ _ _ _ _ dX6_inverse_26 ?_ (by omega) (by omega)
          exact Or.inr ⟨hno, rfl, rfl⟩
    exact L15 _ _ (Nat.lt_succ_self _) (by first | exact Or.inr ⟨rfl, by rw [nI_toInt (by decide)] at h7; exact h7⟩ | exact Or.inl ⟨rfl, by rw [nI_toInt (by decide)] at h7; exact h7⟩) (by decide)

abbrev rm_t_X6_measure : Room := ({ frames := 4, cells := 0, slots := 0, locals := 92 } : Room)
set_option maxHeartbeats 4000000 in
set_option maxRecDepth 100000 in
theorem t_X6_measure (l : Launch) (D : va_G) (ty : g_T3) (n0 np na nc nf nq no nx ny nl nh nb nw nt : Nat) (th cp pl tl av wr : Int32) (rs : Int64) (en : Int32) (f : Int64) (o : Int32) : g_U l yX6_measure wsX6_measure rm_t_X6_measure D ty g_X0 [.ref n0, .long f, .int o] [(n0, .inr (5, [.int th, .ref np, .ref na, .int cp, .ref nc, .int en, .ref nf, .ref nq, .ref no, .ref nx, .ref ny, .ref nl, .ref nh, .ref nb, .ref nw, .int pl, .ref nt, .int tl, .int av, .int wr, .long rs]))] 0 0 (g_ui (fun r w => (∃ k, k ≤ 4 ∧ o = nI k ∧ msM f k r ∧ w = [(n0, .inr (5, [.int (nI 0), .ref np, .ref na, .int cp, .ref nc, .int en, .ref nf, .ref nq, .ref no, .ref nx, .ref ny, .ref nl, .ref nh, .ref nb, .ref nw, .int pl, .ref nt, .int tl, .int av, .int wr, .long rs]))]) ∨ ((o.toInt < 0 ∨ 4 < o.toInt) ∧ r = nI 0 ∧ w = [(n0, .inr (5, [.int (nI 1), .ref np, .ref na, .int cp, .ref nc, .int en, .ref nf, .ref nq, .ref no, .ref nx, .ref ny, .ref nl, .ref nh, .ref nb, .ref nw, .int pl, .ref nt, .int tl, .int av, .int wr, .long rs]))]))) := by
  refine g_ofUi (cc := cX6_measure) (nL := 6) (own := RX6) (by decide) rfl rfl g_X0_ok (Nat.le_of_ble_eq_true rfl) ?_
  intro p e s m args below meth c Q A C hA hX hin hR
  refine g_lv (lv' := [(0, .ref n0), (1, .long f), (3, .int o)]) [0, 1, 2] rfl ?_
  refine g_aload_n C dX6_measure_0 0 rfl rfl ?_
  refine g_iconst C dX6_measure_1 (v := (nI 0)) (by decide) ?_
  refine g_put C 0 rfl rfl 0 (by decide) (fun _ h => (List.mem_cons_of_mem _ (List.mem_append_right _ h))) 1 rfl rfl tyX6 tyX6_ok nmX6 rfl rfl rfl rfl (Nat.le_of_ble_eq_true rfl) (ws' := [(n0, .inr (5, [.int (nI 0), .ref np, .ref na, .int cp, .ref nc, .int en, .ref nf, .ref nq, .ref no, .ref nx, .ref ny, .ref nl, .ref nh, .ref nb, .ref nw, .int pl, .ref nt, .int tl, .int av, .int wr, .long rs]))]) rfl dX6_measure_2 ?_
  refine g_iload_n C dX6_measure_5 2 rfl rfl ?_
  refine g_iconst C dX6_measure_6 (v := (nI 0)) (by decide) ?_
  refine g_iconst C dX6_measure_7 (v := (nI 4)) (by decide) ?_
  refine g_callPS C ⟨g_X0_ok, trivial⟩ (t_X6_isIn l D ty o (nI 0) (nI 4)) rfl gX6_measure_X6_isIn 3 (by decide +kernel) rfl ⟨rfl, rfl⟩ ⟨Nat.le_of_ble_eq_true rfl, Nat.le_of_ble_eq_true rfl⟩ (rest := []) [] rfl (Nat.le_of_ble_eq_true rfl) dX6_measure_8 ⟨Nat.le_of_ble_eq_true rfl, Nat.le_of_ble_eq_true rfl⟩ rfl (g_ki (fun r hr => ?_))
  subst hr
  have := bt_lt (inB o (nI 0) (nI 4))
  refine g_if_neN C dX6_measure_11 (tgt := 20) (by decide) (by omega) (fun h11 => ?_) (fun h11 => ?_)
  · skip
    obtain ⟨k, hk, rfl⟩ := in_nI (by decide) h11
    refine g_iload_n C dX6_measure_20 2 rfl rfl ?_
    refine g_iconst C dX6_measure_21 (v := (nI 1)) (by decide) ?_
    refine g_icmp_neN C dX6_measure_22 (tgt := 30) (by decide) (by omega) (by omega) (fun h22 => ?_) (fun h22 => ?_)
    · skip
      refine g_iload_n C dX6_measure_30 2 rfl rfl ?_
      refine g_iconst C dX6_measure_31 (v := (nI 3)) (by decide) ?_
      refine g_icmp_neN C dX6_measure_32 (tgt := 43) (by decide) (by omega) (by omega) (fun h32 => ?_) (fun h32 => ?_)
      · skip
        refine g_iload_n C dX6_measure_43 2 rfl rfl ?_
        refine g_iconst C dX6_measure_44 (v := (nI 4)) (by decide) ?_
        refine g_icmp_neN C dX6_measure_45 (tgt := 53) (by decide) (by omega) (by omega) (fun h45 => ?_) (fun h45 => ?_)
        · skip
          refine g_iconst C dX6_measure_53 (v := (nI 0)) (by decide) ?_
          refine g_istore C dX6_measure_54 (by decide) (lv' := [(4, .int (nI 0)), (0, .ref n0), (1, .long f), (3, .int (nI k))]) rfl ?_
          refine g_iconst C dX6_measure_56 (v := (nI 0)) (by decide) ?_
          refine g_istore C dX6_measure_57 (by decide) (lv' := [(5, .int (nI 0)), (4, .int (nI 0)), (0, .ref n0), (1, .long f), (3, .int (nI k))]) rfl ?_
          have L59 : ∀ (n9 : Nat) (i : Nat), 16 - i < n9 → (i ≤ 16) → gG (g_IU A D s) p l e rm_t_X6_measure s m args below meth c Q 6 0 0 59 [(5, .int (nI i)), (4, .int (mmN f k i)), (0, .ref n0), (1, .long f), (3, .int (nI k))] [] [(n0, .inr (5, [.int (nI 0), .ref np, .ref na, .int cp, .ref nc, .int en, .ref nf, .ref nq, .ref no, .ref nx, .ref ny, .ref nl, .ref nh, .ref nb, .ref nw, .int pl, .ref nt, .int tl, .int av, .int wr, .long rs]))] := by
            intro n9
            induction n9 with
            | zero => intro i hn; exact absurd hn (Nat.not_lt_zero _)
            | succ n9 ih59 =>
              intro i hn59 hi
              refine g_iload C dX6_measure_59 0 rfl ?_
              refine g_bipush C dX6_measure_61 (v := (nI 16)) (by decide) ?_
              refine g_icmp_geN C dX6_measure_63 (tgt := 112) (by decide) (by omega) (by omega) (fun h63 => ?_) (fun h63 => ?_)
              · skip
                obtain rfl : i = 16 := by omega
                refine g_iload C dX6_measure_112 1 rfl ?_
                refine hR _ _ _ _ _ _ dX6_measure_114 ?_ (by omega) (by omega)
                exact Or.inl ⟨k, hk, rfl, ms_0 (by omega) (by omega) (by omega) rfl, rfl⟩
              · skip
                refine g_iload C dX6_measure_66 1 rfl ?_
                refine g_iload_n C dX6_measure_68 4 rfl rfl ?_
                refine g_if_neN C dX6_measure_69 (tgt := 91) (by decide) (by omega) (fun h69 => ?_) (fun h69 => ?_)
                · skip
                  refine g_lload_n C dX6_measure_91 3 rfl rfl ?_
                  refine g_iload C dX6_measure_92 0 rfl ?_
                  refine g_callPS C ⟨g_X0_ok, trivial⟩ (t_X6_at l D ty f i (by omega)) rfl gX6_measure_X6_at 2 (by decide +kernel) rfl ⟨rfl, rfl⟩ ⟨Nat.le_of_ble_eq_true rfl, Nat.le_of_ble_eq_true rfl⟩ (rest := [.int (mmN f k i)]) [] rfl (Nat.le_of_ble_eq_true rfl) dX6_measure_94 ⟨Nat.le_of_ble_eq_true rfl, Nat.le_of_ble_eq_true rfl⟩ rfl (g_ki (fun r hr => ?_))
                  subst hr
                  have := nib_lt f i
                  refine g_iload C dX6_measure_97 0 rfl ?_
                  refine g_ixor C dX6_measure_99 (v := (nI (nib f i ^^^ i))) (nixor _ _) ?_
                  refine g_callPS C ⟨g_X0_ok, trivial⟩ (t_J6_bitCount_0f7a4 l D ty (nI (nib f i ^^^ i))) rfl gX6_measure_J6_bitCount_0f7a4 1 (by decide +kernel) rfl ⟨rfl, rfl⟩ ⟨Nat.le_of_ble_eq_true rfl, Nat.le_of_ble_eq_true rfl⟩ (rest := [.int (mmN f k i)]) [] rfl (Nat.le_of_ble_eq_true rfl) dX6_measure_100 ⟨Nat.le_of_ble_eq_true rfl, Nat.le_of_ble_eq_true rfl⟩ rfl (g_ki (fun r hr => ?_))
                  subst hr
                  refine g_iadd C dX6_measure_103 (v := (mmN f k (i + 1))) (by first | exact mm_a h69 h80 | exact mm_b h69 h80 | exact mm_c h69) ?_
                  refine g_istore C dX6_measure_104 (by decide) (lv' := [(4, .int (mmN f k (i + 1))), (5, .int (nI i)), (0, .ref n0), (1, .long f), (3, .int (nI k))]) rfl ?_
                  refine g_iinc C dX6_measure_106 1 rfl (v := (nI (i + 1))) (nI_1 i) (by decide) (lv' := [(5, .int (nI (i + 1))), (4, .int (mmN f k (i + 1))), (0, .ref n0), (1, .long f), (3, .int (nI k))]) rfl ?_
                  refine g_goto C dX6_measure_109 (tgt := 59) (by decide) ?_
                  exact ih59 (i + 1) (by omega) (by omega)
                · skip
                  refine g_lload_n C dX6_measure_72 3 rfl rfl ?_
                  refine g_iload C dX6_measure_73 0 rfl ?_
                  refine g_callPS C ⟨g_X0_ok, trivial⟩ (t_X6_at l D ty f i (by omega)) rfl gX6_measure_X6_at 2 (by decide +kernel) rfl ⟨rfl, rfl⟩ ⟨Nat.le_of_ble_eq_true rfl, Nat.le_of_ble_eq_true rfl⟩ (rest := [.int (mmN f k i)]) [] rfl (Nat.le_of_ble_eq_true rfl) dX6_measure_75 ⟨Nat.le_of_ble_eq_true rfl, Nat.le_of_ble_eq_true rfl⟩ rfl (g_ki (fun r hr => ?_))
                  subst hr
                  have := nib_lt f i
                  refine g_iload C dX6_measure_78 0 rfl ?_
                  refine g_icmp_neN C dX6_measure_80 (tgt := 87) (by decide) (by have := nib_lt f i; omega) (by omega) (fun h80 => ?_) (fun h80 => ?_)
                  · skip
                    refine g_iconst C dX6_measure_87 (v := (nI 0)) (by decide) ?_
                    refine g_goto C dX6_measure_88 (tgt := 103) (by decide) ?_
                    refine g_iadd C dX6_measure_103 (v := (mmN f k (i + 1))) (by first | exact mm_a h69 h80 | exact mm_b h69 h80 | exact mm_c h69) ?_
                    refine g_istore C dX6_measure_104 (by decide) (lv' := [(4, .int (mmN f k (i + 1))), (5, .int (nI i)), (0, .ref n0), (1, .long f), (3, .int (nI k))]) rfl ?_
                    refine g_iinc C dX6_measure_106 1 rfl (v := (nI (i + 1))) (nI_1 i) (by decide) (lv' := [(5, .int (nI (i + 1))), (4, .int (mmN f k (i + 1))), (0, .ref n0), (1, .long f), (3, .int (nI k))]) rfl ?_
                    refine g_goto C dX6_measure_109 (tgt := 59) (by decide) ?_
                    exact ih59 (i + 1) (by omega) (by omega)
                  · skip
                    refine g_iconst C dX6_measure_83 (v := (nI 1)) (by decide) ?_
                    refine g_goto C dX6_measure_84 (tgt := 103) (by decide) ?_
                    refine g_iadd C dX6_measure_103 (v := (mmN f k (i + 1))) (by first | exact mm_a h69 h80 | exact mm_b h69 h80 | exact mm_c h69) ?_
                    refine g_istore C dX6_measure_104 (by decide) (lv' := [(4, .int (mmN f k (i + 1))), (5, .int (nI i)), (0, .ref n0), (1, .long f), (3, .int (nI k))]) rfl ?_
                    refine g_iinc C dX6_measure_106 1 rfl (v := (nI (i + 1))) (nI_1 i) (by decide) (lv' := [(5, .int (nI (i + 1))), (4, .int (mmN f k (i + 1))), (0, .ref n0), (1, .long f), (3, .int (nI k))]) rfl ?_
                    refine g_goto C dX6_measure_109 (tgt := 59) (by decide) ?_
                    exact ih59 (i + 1) (by omega) (by omega)
          exact L59 _ 0 (Nat.lt_succ_self _) (by omega)
        · skip
          refine g_lload_n C dX6_measure_48 1 rfl rfl ?_
          refine g_callPS C ⟨g_X0_ok, trivial⟩ (t_X6_tail l D ty f) rfl gX6_measure_X6_tail 1 (by decide +kernel) rfl ⟨rfl, rfl⟩ ⟨Nat.le_of_ble_eq_true rfl, Nat.le_of_ble_eq_true rfl⟩ (rest := []) [] rfl (Nat.le_of_ble_eq_true rfl) dX6_measure_49 ⟨Nat.le_of_ble_eq_true rfl, Nat.le_of_ble_eq_true rfl⟩ rfl (g_ki (fun r hr => ?_))
          obtain ⟨n9s, rfl, hs9⟩ := hr
          refine hR _ _ _ _ _ _ dX6_measure_52 ?_ (by omega) (by omega)
          exact Or.inl ⟨k, hk, rfl, ms_4 (by omega) rfl hs9, rfl⟩
      · skip
        refine g_lload_n C dX6_measure_35 1 rfl rfl ?_
        refine g_callPS C ⟨g_X0_ok, trivial⟩ (t_X6_returning l D ty f) rfl gX6_measure_X6_returning 1 (by decide +kernel) rfl ⟨rfl, rfl⟩ ⟨Nat.le_of_ble_eq_true rfl, Nat.le_of_ble_eq_true rfl⟩ (rest := []) [] rfl (Nat.le_of_ble_eq_true rfl) dX6_measure_36 ⟨Nat.le_of_ble_eq_true rfl, Nat.le_of_ble_eq_true rfl⟩ rfl (g_ki (fun r hr => ?_))
        subst hr
        have := itF_lt f 16
        refine g_callPS C ⟨g_X0_ok, trivial⟩ (t_J6_bitCount_0f7a4 l D ty (nI (itF f 16))) rfl gX6_measure_J6_bitCount_0f7a4 1 (by decide +kernel) rfl ⟨rfl, rfl⟩ ⟨Nat.le_of_ble_eq_true rfl, Nat.le_of_ble_eq_true rfl⟩ (rest := []) [] rfl (Nat.le_of_ble_eq_true rfl) dX6_measure_39 ⟨Nat.le_of_ble_eq_true rfl, Nat.le_of_ble_eq_true rfl⟩ rfl (g_ki (fun r hr => ?_))
        subst hr
        refine hR _ _ _ _ _ _ dX6_measure_42 ?_ (by omega) (by omega)
        exact Or.inl ⟨k, hk, rfl, ms_3 (by omega) rfl, rfl⟩
    · skip
      refine g_lload_n C dX6_measure_25 1 rfl rfl ?_
      refine g_callPS C ⟨g_X0_ok, trivial⟩ (t_X6_values l D ty f) rfl gX6_measure_X6_values 1 (by decide +kernel) rfl ⟨rfl, rfl⟩ ⟨Nat.le_of_ble_eq_true rfl, Nat.le_of_ble_eq_true rfl⟩ (rest := []) [] rfl (Nat.le_of_ble_eq_true rfl) dX6_measure_26 ⟨Nat.le_of_ble_eq_true rfl, Nat.le_of_ble_eq_true rfl⟩ rfl (g_ki (fun r hr => ?_))
      subst hr
      refine hR _ _ _ _ _ _ dX6_measure_29 ?_ (by omega) (by omega)
      exact Or.inl ⟨k, hk, rfl, ms_1 (by omega) rfl, rfl⟩
  · skip
    have hno := in_no (by decide) h11
    refine g_aload_n C dX6_measure_14 0 rfl rfl ?_
    refine g_iconst C dX6_measure_15 (v := (nI 1)) (by decide) ?_
    refine g_callUV C ⟨g_X0_ok, trivial⟩ (t_X6_no l D ty n0 np na nc nf nq no nx ny nl nh nb nw nt (nI 0) cp pl tl av wr rs en (nI 1)) rfl gX6_measure_X6_no 1 (by decide +kernel) rfl ⟨rfl, rfl⟩ ⟨Nat.le_of_ble_eq_true rfl, Nat.le_of_ble_eq_true rfl⟩ (rest := []) (q0 := 0) rfl rfl hA [0] [] rfl rfl rfl (wr := []) rfl rfl rfl (Nat.le_of_ble_eq_true rfl) dX6_measure_16 ⟨Nat.le_of_ble_eq_true rfl, Nat.le_of_ble_eq_true rfl⟩ rfl (g_kui (fun r w hr => ?_))
    obtain ⟨rfl, rfl⟩ := hr
    refine g_ws (ws' := [(n0, .inr (5, [.int (nI 1), .ref np, .ref na, .int cp, .ref nc, .int en, .ref nf, .ref nq, .ref no, .ref nx, .ref ny, .ref nl, .ref nh, .ref nb, .ref nw, .int pl, .ref nt, .int tl, .int av, .int wr, .long rs]))]) [0] rfl rfl rfl ?_
    refine hR _ _ _ _ _ _ dX6_measure_19 ?_ (by omega) (by omega)
    exact Or.inr ⟨by omega, rfl, rfl⟩

abbrev rm_t_X6_is : Room := ({ frames := 2, cells := 0, slots := 0, locals := 48 } : Room)
set_option maxHeartbeats 4000000 in
set_option maxRecDepth 100000 in
theorem t_X6_is (l : Launch) (D : va_G) (ty : g_T3) (n0 np na nc nf nq no nx ny nl nh nb nw nt : Nat) (th cp pl tl av wr : Int32) (rs : Int64) (en : Int32) (f : Int64) (o : Int32) : g_U l yX6_is wsX6_is rm_t_X6_is D ty g_X0 [.ref n0, .long f, .int o] [(n0, .inr (5, [.int th, .ref np, .ref na, .int cp, .ref nc, .int en, .ref nf, .ref nq, .ref no, .ref nx, .ref ny, .ref nl, .ref nh, .ref nb, .ref nw, .int pl, .ref nt, .int tl, .int av, .int wr, .long rs]))] 0 0 (g_ui (fun r w => (∃ k, k ≤ 3 ∧ o = nI k ∧ r = nI (isM f k).toNat ∧ w = [(n0, .inr (5, [.int (nI 0), .ref np, .ref na, .int cp, .ref nc, .int en, .ref nf, .ref nq, .ref no, .ref nx, .ref ny, .ref nl, .ref nh, .ref nb, .ref nw, .int pl, .ref nt, .int tl, .int av, .int wr, .long rs]))]) ∨ ((o.toInt < 0 ∨ 3 < o.toInt) ∧ r = nI 0 ∧ w = [(n0, .inr (5, [.int (nI 1), .ref np, .ref na, .int cp, .ref nc, .int en, .ref nf, .ref nq, .ref no, .ref nx, .ref ny, .ref nl, .ref nh, .ref nb, .ref nw, .int pl, .ref nt, .int tl, .int av, .int wr, .long rs]))]))) := by
  refine g_ofUz (cc := cX6_is) (nL := 6) (own := RX6) (by decide) rfl rfl g_X0_ok (Nat.le_of_ble_eq_true rfl) ?_
  intro p e s m args below meth c Q A C hA hX hin hR
  refine g_lv (lv' := [(0, .ref n0), (1, .long f), (3, .int o)]) [0, 1, 2] rfl ?_
  refine g_aload_n C dX6_is_0 0 rfl rfl ?_
  refine g_iload_n C dX6_is_1 2 rfl rfl ?_
  refine g_iconst C dX6_is_2 (v := (nI 0)) (by decide) ?_
  refine g_iconst C dX6_is_3 (v := (nI 3)) (by decide) ?_
  refine g_callPS C ⟨g_X0_ok, trivial⟩ (t_X6_isIn l D ty o (nI 0) (nI 3)) rfl gX6_is_X6_isIn 3 (by decide +kernel) rfl ⟨rfl, rfl⟩ ⟨Nat.le_of_ble_eq_true rfl, Nat.le_of_ble_eq_true rfl⟩ (rest := [.ref n0]) [] rfl (Nat.le_of_ble_eq_true rfl) dX6_is_4 ⟨Nat.le_of_ble_eq_true rfl, Nat.le_of_ble_eq_true rfl⟩ rfl (g_ki (fun r hr => ?_))
  subst hr
  have := bt_lt (inB o (nI 0) (nI 3))
  refine g_if_eqN C dX6_is_7 (tgt := 14) (by decide) (by omega) (fun h7 => ?_) (fun h7 => ?_)
  · skip
    refine g_iconst C dX6_is_14 (v := (nI 1)) (by decide) ?_
    have L15 : ∀ (n9 : Nat) (tv : Nat), 0 < n9 → ((tv = 0 ∧ ∃ k, k ≤ 3 ∧ o = nI k) ∨ (tv = 1 ∧ (o.toInt < 0 ∨ 3 < o.toInt))) → (tv ≤ 1) → gG (g_IU A D s) p l e rm_t_X6_is s m args below meth c Q 6 0 0 15 [(0, .ref n0), (1, .long f), (3, .int o)] [.int (nI tv), .ref n0] [(n0, .inr (5, [.int th, .ref np, .ref na, .int cp, .ref nc, .int en, .ref nf, .ref nq, .ref no, .ref nx, .ref ny, .ref nl, .ref nh, .ref nb, .ref nw, .int pl, .ref nt, .int tl, .int av, .int wr, .long rs]))] := by
      intro n9
      induction n9 with
      | zero => intro tv hn; exact absurd hn (Nat.not_lt_zero _)
      | succ n9 ih15 =>
        intro tv hn15 htv ht1
        refine g_put C 0 rfl rfl 0 (by decide) (fun _ h => (List.mem_cons_of_mem _ (List.mem_append_right _ h))) 1 rfl rfl tyX6 tyX6_ok nmX6 rfl rfl rfl rfl (Nat.le_of_ble_eq_true rfl) (ws' := [(n0, .inr (5, [.int (nI tv), .ref np, .ref na, .int cp, .ref nc, .int en, .ref nf, .ref nq, .ref no, .ref nx, .ref ny, .ref nl, .ref nh, .ref nb, .ref nw, .int pl, .ref nt, .int tl, .int av, .int wr, .long rs]))]) rfl dX6_is_15 ?_
        refine g_aload_n C dX6_is_18 0 rfl rfl ?_
        refine g_get C 0 rfl rfl 0 (by decide) (fun _ h => (List.mem_cons_of_mem _ (List.mem_append_right _ h))) 1 rfl rfl rfl dX6_is_19 ?_
        refine g_if_neN C dX6_is_22 (tgt := 29) (by decide) (by omega) (fun h22 => ?_) (fun h22 => ?_)
        · skip
          have hno := (htv.resolve_left (fun z => by have := z.1; omega)).2
          have h2t : tv = 1 := by omega
          refine g_iconst C dX6_is_29 (v := (nI ((false).toNat))) rfl ?_
          refine g_istore C dX6_is_30 (by decide) (lv' := [(4, .int (nI ((false).toNat))), (0, .ref n0), (1, .long f), (3, .int o)]) rfl ?_
          refine g_iconst C dX6_is_32 (v := (nI 0)) (by decide) ?_
          refine g_istore C dX6_is_33 (by decide) (lv' := [(5, .int (nI 0)), (4, .int (nI ((false).toNat))), (0, .ref n0), (1, .long f), (3, .int o)]) rfl ?_
          have L35 : ∀ (n9 : Nat) (i : Nat) (b : Bool), 256 - i < n9 → (i ≤ 256) → ((tv = 1 ∧ (o.toInt < 0 ∨ 3 < o.toInt) ∧ b = false) ∨ (tv = 0 ∧ ∃ k, k ≤ 3 ∧ o = nI k ∧ (b = true ↔ ∀ j, j < i → ifB f k (j / 16) (j % 16) = true))) → gG (g_IU A D s) p l e rm_t_X6_is s m args below meth c Q 6 0 0 35 [(5, .int (nI i)), (4, .int (nI b.toNat)), (0, .ref n0), (1, .long f), (3, .int o)] [] [(n0, .inr (5, [.int (nI tv), .ref np, .ref na, .int cp, .ref nc, .int en, .ref nf, .ref nq, .ref no, .ref nx, .ref ny, .ref nl, .ref nh, .ref nb, .ref nw, .int pl, .ref nt, .int tl, .int av, .int wr, .long rs]))] := by
            intro n9
            induction n9 with
            | zero => intro i b hn; exact absurd hn (Nat.not_lt_zero _)
            | succ n9 ih35 =>
              intro i b hn35 hi hb
              have hbl := bt_lt b
              refine g_iload C dX6_is_35 0 rfl ?_
              refine g_sipush C dX6_is_37 (v := (nI 256)) (by decide) ?_
              refine g_icmp_geN C dX6_is_40 (tgt := 71) (by decide) (by omega) (by omega) (fun h40 => ?_) (fun h40 => ?_)
              · skip
                have hx : 256 ≤ i ∨ b = false := Or.inl (by omega)
                refine g_iload C dX6_is_71 1 rfl ?_
                refine hR _ _ _ _ _ _ (bt_z _) dX6_is_73 ?_ (by omega) (by omega)
                rcases hb with ⟨z1, z2, z3⟩ | ⟨z1, k, hk, hok, hall⟩
                · subst z1; subst z3; exact Or.inr ⟨z2, rfl, rfl⟩
                · subst z1; exact Or.inl ⟨k, hk, hok, by rw [is_e hall hi hx], rfl⟩
              · skip
                refine g_iload C dX6_is_43 1 rfl ?_
                refine g_if_eqN C dX6_is_45 (tgt := 71) (by decide) (by omega) (fun h45 => ?_) (fun h45 => ?_)
                · skip
                  have hx : 256 ≤ i ∨ b = false := Or.inr (Bool.eq_false_iff.mpr (b_f h45))
                  refine g_iload C dX6_is_71 1 rfl ?_
                  refine hR _ _ _ _ _ _ (bt_z _) dX6_is_73 ?_ (by omega) (by omega)
                  rcases hb with ⟨z1, z2, z3⟩ | ⟨z1, k, hk, hok, hall⟩
                  · subst z1; subst z3; exact Or.inr ⟨z2, rfl, rfl⟩
                  · subst z1; exact Or.inl ⟨k, hk, hok, by rw [is_e hall hi hx], rfl⟩
                · skip
                  have hbt := b_t h45
                  obtain ⟨htv0, k, hk, rfl, hall⟩ := hb.resolve_left (fun z => by rw [z.2.2] at hbt; exact Bool.false_ne_true hbt)
                  refine g_lload_n C dX6_is_48 3 rfl rfl ?_
                  refine g_iload_n C dX6_is_49 4 rfl rfl ?_
                  refine g_iload C dX6_is_50 0 rfl ?_
                  refine g_bipush C dX6_is_52 (v := (nI 16)) (by decide) ?_
                  refine g_idiv C dX6_is_54 (by decide) (v := (nI (i / 16))) (pk_div (by omega) (by decide) (by decide)) ?_
                  refine g_iload C dX6_is_55 0 rfl ?_
                  refine g_bipush C dX6_is_57 (v := (nI 16)) (by decide) ?_
                  refine g_irem C dX6_is_59 (by decide) (v := (nI (i % 16))) (pk_rem (by omega) (by decide) (by decide)) ?_
                  refine g_callPS C ⟨g_X0_ok, trivial⟩ (t_X6_isFor l D ty f k (i / 16) (i % 16) (by omega) (by omega) (by omega)) rfl gX6_is_X6_isFor 4 (by decide +kernel) rfl ⟨rfl, rfl⟩ ⟨Nat.le_of_ble_eq_true rfl, Nat.le_of_ble_eq_true rfl⟩ (rest := []) [] rfl (Nat.le_of_ble_eq_true rfl) dX6_is_60 ⟨Nat.le_of_ble_eq_true rfl, Nat.le_of_ble_eq_true rfl⟩ rfl (g_ki (fun r hr => ?_))
                  subst hr
                  have := bt_lt (ifB f k (i / 16) (i % 16))
                  refine g_istore C dX6_is_63 (by decide) (lv' := [(4, .int (nI ((ifB f k (i / 16) (i % 16)).toNat))), (5, .int (nI i)), (0, .ref n0), (1, .long f), (3, .int (nI k))]) rfl ?_
                  refine g_iinc C dX6_is_65 1 rfl (v := (nI (i + 1))) (nI_1 i) (by decide) (lv' := [(5, .int (nI (i + 1))), (4, .int (nI ((ifB f k (i / 16) (i % 16)).toNat))), (0, .ref n0), (1, .long f), (3, .int (nI k))]) rfl ?_
                  refine g_goto C dX6_is_68 (tgt := 35) (by decide) ?_
                  exact ih35 (i + 1) _ (by omega) (by omega) (Or.inr ⟨htv0, k, hk, rfl, is_s (hall.mp hbt) Iff.rfl⟩)
          exact L35 _ 0 false (Nat.lt_succ_self _) (by omega) (by first | exact Or.inl ⟨h2t, hno, rfl⟩ | exact Or.inr ⟨h2t, k, hk, hok, ⟨fun _ j hj => absurd hj (Nat.not_lt_zero j), fun _ => rfl⟩⟩)
        · skip
          obtain ⟨k, hk, hok⟩ := (htv.resolve_right (fun z => by have := z.1; omega)).2
          have h2t : tv = 0 := by omega
          refine g_iconst C dX6_is_25 (v := (nI ((true).toNat))) rfl ?_
          refine g_goto C dX6_is_26 (tgt := 30) (by decide) ?_
          refine g_istore C dX6_is_30 (by decide) (lv' := [(4, .int (nI ((true).toNat))), (0, .ref n0), (1, .long f), (3, .int o)]) rfl ?_
          refine g_iconst C dX6_is_32 (v := (nI 0)) (by decide) ?_
          refine g_istore C dX6_is_33 (by decide) (lv' := [(5, .int (nI 0)), (4, .int (nI ((true).toNat))), (0, .ref n0), (1, .long f), (3, .int o)]) rfl ?_
          have L35 : ∀ (n9 : Nat) (i : Nat) (b : Bool), 256 - i < n9 → (i ≤ 256) → ((tv = 1 ∧ (o.toInt < 0 ∨ 3 < o.toInt) ∧ b = false) ∨ (tv = 0 ∧ ∃ k, k ≤ 3 ∧ o = nI k ∧ (b = true ↔ ∀ j, j < i → ifB f k (j / 16) (j % 16) = true))) → gG (g_IU A D s) p l e rm_t_X6_is s m args below meth c Q 6 0 0 35 [(5, .int (nI i)), (4, .int (nI b.toNat)), (0, .ref n0), (1, .long f), (3, .int o)] [] [(n0, .inr (5, [.int (nI tv), .ref np, .ref na, .int cp, .ref nc, .int en, .ref nf, .ref nq, .ref no, .ref nx, .ref ny, .ref nl, .ref nh, .ref nb, .ref nw, .int pl, .ref nt, .int tl, .int av, .int wr, .long rs]))] := by
            intro n9
            induction n9 with
            | zero => intro i b hn; exact absurd hn (Nat.not_lt_zero _)
            | succ n9 ih35 =>
              intro i b hn35 hi hb
              have hbl := bt_lt b
              refine g_iload C dX6_is_35 0 rfl ?_
              refine g_sipush C dX6_is_37 (v := (nI 256)) (by decide) ?_
              refine g_icmp_geN C dX6_is_40 (tgt := 71) (by decide) (by omega) (by omega) (fun h40 => ?_) (fun h40 => ?_)
              · skip
                have hx : 256 ≤ i ∨ b = false := Or.inl (by omega)
                refine g_iload C dX6_is_71 1 rfl ?_
                refine hR _ _ _ _ _ _ (bt_z _) dX6_is_73 ?_ (by omega) (by omega)
                rcases hb with ⟨z1, z2, z3⟩ | ⟨z1, k, hk, hok, hall⟩
                · subst z1; subst z3; exact Or.inr ⟨z2, rfl, rfl⟩
                · subst z1; exact Or.inl ⟨k, hk, hok, by rw [is_e hall hi hx], rfl⟩
              · skip
                refine g_iload C dX6_is_43 1 rfl ?_
                refine g_if_eqN C dX6_is_45 (tgt := 71) (by decide) (by omega) (fun h45 => ?_) (fun h45 => ?_)
                · skip
                  have hx : 256 ≤ i ∨ b = false := Or.inr (Bool.eq_false_iff.mpr (b_f h45))
                  refine g_iload C dX6_is_71 1 rfl ?_
                  refine hR _ _ _ _ _ _ (bt_z _) dX6_is_73 ?_ (by omega) (by omega)
                  rcases hb with ⟨z1, z2, z3⟩ | ⟨z1, k, hk, hok, hall⟩
                  · subst z1; subst z3; exact Or.inr ⟨z2, rfl, rfl⟩
                  · subst z1; exact Or.inl ⟨k, hk, hok, by rw [is_e hall hi hx], rfl⟩
                · skip
                  have hbt := b_t h45
                  obtain ⟨htv0, k, hk, rfl, hall⟩ := hb.resolve_left (fun z => by rw [z.2.2] at hbt; exact Bool.false_ne_true hbt)
                  refine g_lload_n C dX6_is_48 3 rfl rfl ?_
                  refine g_iload_n C dX6_is_49 4 rfl rfl ?_
                  refine g_iload C dX6_is_50 0 rfl ?_
                  refine g_bipush C dX6_is_52 (v := (nI 16)) (by decide) ?_
                  refine g_idiv C dX6_is_54 (by decide) (v := (nI (i / 16))) (pk_div (by omega) (by decide) (by decide)) ?_
                  refine g_iload C dX6_is_55 0 rfl ?_
                  refine g_bipush C dX6_is_57 (v := (nI 16)) (by decide) ?_
                  refine g_irem C dX6_is_59 (by decide) (v := (nI (i % 16))) (pk_rem (by omega) (by decide) (by decide)) ?_
                  refine g_callPS C ⟨g_X0_ok, trivial⟩ (t_X6_isFor l D ty f k (i / 16) (i % 16) (by omega) (by omega) (by omega)) rfl gX6_is_X6_isFor 4 (by decide +kernel) rfl ⟨rfl, rfl⟩ ⟨Nat.le_of_ble_eq_true rfl, Nat.le_of_ble_eq_true rfl⟩ (rest := []) [] rfl (Nat.le_of_ble_eq_true rfl) dX6_is_60 ⟨Nat.le_of_ble_eq_true rfl, Nat.le_of_ble_eq_true rfl⟩ rfl (g_ki (fun r hr => ?_))
                  subst hr
                  have := bt_lt (ifB f k (i / 16) (i % 16))
                  refine g_istore C dX6_is_63 (by decide) (lv' := [(4, .int (nI ((ifB f k (i / 16) (i % 16)).toNat))), (5, .int (nI i)), (0, .ref n0), (1, .long f), (3, .int (nI k))]) rfl ?_
                  refine g_iinc C dX6_is_65 1 rfl (v := (nI (i + 1))) (nI_1 i) (by decide) (lv' := [(5, .int (nI (i + 1))), (4, .int (nI ((ifB f k (i / 16) (i % 16)).toNat))), (0, .ref n0), (1, .long f), (3, .int (nI k))]) rfl ?_
                  refine g_goto C dX6_is_68 (tgt := 35) (by decide) ?_
                  exact ih35 (i + 1) _ (by omega) (by omega) (Or.inr ⟨htv0, k, hk, rfl, is_s (hall.mp hbt) Iff.rfl⟩)
          exact L35 _ 0 true (Nat.lt_succ_self _) (by omega) (by first | exact Or.inl ⟨h2t, hno, rfl⟩ | exact Or.inr ⟨h2t, k, hk, hok, ⟨fun _ j hj => absurd hj (Nat.not_lt_zero j), fun _ => rfl⟩⟩)
    exact L15 _ _ (Nat.lt_succ_self _) (by first | exact Or.inr ⟨rfl, in_no (by decide) h7⟩ | exact Or.inl ⟨rfl, in_nI (by decide) h7⟩) (by decide)
  · skip
    refine g_iconst C dX6_is_10 (v := (nI 0)) (by decide) ?_
    refine g_goto C dX6_is_11 (tgt := 15) (by decide) ?_
    have L15 : ∀ (n9 : Nat) (tv : Nat), 0 < n9 → ((tv = 0 ∧ ∃ k, k ≤ 3 ∧ o = nI k) ∨ (tv = 1 ∧ (o.toInt < 0 ∨ 3 < o.toInt))) → (tv ≤ 1) → gG (g_IU A D s) p l e rm_t_X6_is s m args below meth c Q 6 0 0 15 [(0, .ref n0), (1, .long f), (3, .int o)] [.int (nI tv), .ref n0] [(n0, .inr (5, [.int th, .ref np, .ref na, .int cp, .ref nc, .int en, .ref nf, .ref nq, .ref no, .ref nx, .ref ny, .ref nl, .ref nh, .ref nb, .ref nw, .int pl, .ref nt, .int tl, .int av, .int wr, .long rs]))] := by
      intro n9
      induction n9 with
      | zero => intro tv hn; exact absurd hn (Nat.not_lt_zero _)
      | succ n9 ih15 =>
        intro tv hn15 htv ht1
        refine g_put C 0 rfl rfl 0 (by decide) (fun _ h => (List.mem_cons_of_mem _ (List.mem_append_right _ h))) 1 rfl rfl tyX6 tyX6_ok nmX6 rfl rfl rfl rfl (Nat.le_of_ble_eq_true rfl) (ws' := [(n0, .inr (5, [.int (nI tv), .ref np, .ref na, .int cp, .ref nc, .int en, .ref nf, .ref nq, .ref no, .ref nx, .ref ny, .ref nl, .ref nh, .ref nb, .ref nw, .int pl, .ref nt, .int tl, .int av, .int wr, .long rs]))]) rfl dX6_is_15 ?_
        refine g_aload_n C dX6_is_18 0 rfl rfl ?_
        refine g_get C 0 rfl rfl 0 (by decide) (fun _ h => (List.mem_cons_of_mem _ (List.mem_append_right _ h))) 1 rfl rfl rfl dX6_is_19 ?_
        refine g_if_neN C dX6_is_22 (tgt := 29) (by decide) (by omega) (fun h22 => ?_) (fun h22 => ?_)
        · skip
          have hno := (htv.resolve_left (fun z => by have := z.1; omega)).2
          have h2t : tv = 1 := by omega
          refine g_iconst C dX6_is_29 (v := (nI ((false).toNat))) rfl ?_
          refine g_istore C dX6_is_30 (by decide) (lv' := [(4, .int (nI ((false).toNat))), (0, .ref n0), (1, .long f), (3, .int o)]) rfl ?_
          refine g_iconst C dX6_is_32 (v := (nI 0)) (by decide) ?_
          refine g_istore C dX6_is_33 (by decide) (lv' := [(5, .int (nI 0)), (4, .int (nI ((false).toNat))), (0, .ref n0), (1, .long f), (3, .int o)]) rfl ?_
          have L35 : ∀ (n9 : Nat) (i : Nat) (b : Bool), 256 - i < n9 → (i ≤ 256) → ((tv = 1 ∧ (o.toInt < 0 ∨ 3 < o.toInt) ∧ b = false) ∨ (tv = 0 ∧ ∃ k, k ≤ 3 ∧ o = nI k ∧ (b = true ↔ ∀ j, j < i → ifB f k (j / 16) (j % 16) = true))) → gG (g_IU A D s) p l e rm_t_X6_is s m args below meth c Q 6 0 0 35 [(5, .int (nI i)), (4, .int (nI b.toNat)), (0, .ref n0), (1, .long f), (3, .int o)] [] [(n0, .inr (5, [.int (nI tv), .ref np, .ref na, .int cp, .ref nc, .int en, .ref nf, .ref nq, .ref no, .ref nx, .ref ny, .ref nl, .ref nh, .ref nb, .ref nw, .int pl, .ref nt, .int tl, .int av, .int wr, .long rs]))] := by
            intro n9
            induction n9 with
            | zero => intro i b hn; exact absurd hn (Nat.not_lt_zero _)
            | succ n9 ih35 =>
              intro i b hn35 hi hb
              have hbl := bt_lt b
              refine g_iload C dX6_is_35 0 rfl ?_
              refine g_sipush C dX6_is_37 (v := (nI 256)) (by decide) ?_
              refine g_icmp_geN C dX6_is_40 (tgt := 71) (by decide) (by omega) (by omega) (fun h40 => ?_) (fun h40 => ?_)
              · skip
                have hx : 256 ≤ i ∨ b = false := Or.inl (by omega)
                refine g_iload C dX6_is_71 1 rfl ?_
                refine hR _ _ _ _ _ _ (bt_z _) dX6_is_73 ?_ (by omega) (by omega)
                rcases hb with ⟨z1, z2, z3⟩ | ⟨z1, k, hk, hok, hall⟩
                · subst z1; subst z3; exact Or.inr ⟨z2, rfl, rfl⟩
                · subst z1; exact Or.inl ⟨k, hk, hok, by rw [is_e hall hi hx], rfl⟩
              · skip
                refine g_iload C dX6_is_43 1 rfl ?_
                refine g_if_eqN C dX6_is_45 (tgt := 71) (by decide) (by omega) (fun h45 => ?_) (fun h45 => ?_)
                · skip
                  have hx : 256 ≤ i ∨ b = false := Or.inr (Bool.eq_false_iff.mpr (b_f h45))
                  refine g_iload C dX6_is_71 1 rfl ?_
                  refine hR _ _ _ _ _ _ (bt_z _) dX6_is_73 ?_ (by omega) (by omega)
                  rcases hb with ⟨z1, z2, z3⟩ | ⟨z1, k, hk, hok, hall⟩
                  · subst z1; subst z3; exact Or.inr ⟨z2, rfl, rfl⟩
                  · subst z1; exact Or.inl ⟨k, hk, hok, by rw [is_e hall hi hx], rfl⟩
                · skip
                  have hbt := b_t h45
                  obtain ⟨htv0, k, hk, rfl, hall⟩ := hb.resolve_left (fun z => by rw [z.2.2] at hbt; exact Bool.false_ne_true hbt)
                  refine g_lload_n C dX6_is_48 3 rfl rfl ?_
                  refine g_iload_n C dX6_is_49 4 rfl rfl ?_
                  refine g_iload C dX6_is_50 0 rfl ?_
                  refine g_bipush C dX6_is_52 (v := (nI 16)) (by decide) ?_
                  refine g_idiv C dX6_is_54 (by decide) (v := (nI (i / 16))) (pk_div (by omega) (by decide) (by decide)) ?_
                  refine g_iload C dX6_is_55 0 rfl ?_
                  refine g_bipush C dX6_is_57 (v := (nI 16)) (by decide) ?_
                  refine g_irem C dX6_is_59 (by decide) (v := (nI (i % 16))) (pk_rem (by omega) (by decide) (by decide)) ?_
                  refine g_callPS C ⟨g_X0_ok, trivial⟩ (t_X6_isFor l D ty f k (i / 16) (i % 16) (by omega) (by omega) (by omega)) rfl gX6_is_X6_isFor 4 (by decide +kernel) rfl ⟨rfl, rfl⟩ ⟨Nat.le_of_ble_eq_true rfl, Nat.le_of_ble_eq_true rfl⟩ (rest := []) [] rfl (Nat.le_of_ble_eq_true rfl) dX6_is_60 ⟨Nat.le_of_ble_eq_true rfl, Nat.le_of_ble_eq_true rfl⟩ rfl (g_ki (fun r hr => ?_))
                  subst hr
                  have := bt_lt (ifB f k (i / 16) (i % 16))
                  refine g_istore C dX6_is_63 (by decide) (lv' := [(4, .int (nI ((ifB f k (i / 16) (i % 16)).toNat))), (5, .int (nI i)), (0, .ref n0), (1, .long f), (3, .int (nI k))]) rfl ?_
                  refine g_iinc C dX6_is_65 1 rfl (v := (nI (i + 1))) (nI_1 i) (by decide) (lv' := [(5, .int (nI (i + 1))), (4, .int (nI ((ifB f k (i / 16) (i % 16)).toNat))), (0, .ref n0), (1, .long f), (3, .int (nI k))]) rfl ?_
                  refine g_goto C dX6_is_68 (tgt := 35) (by decide) ?_
                  exact ih35 (i + 1) _ (by omega) (by omega) (Or.inr ⟨htv0, k, hk, rfl, is_s (hall.mp hbt) Iff.rfl⟩)
          exact L35 _ 0 false (Nat.lt_succ_self _) (by omega) (by first | exact Or.inl ⟨h2t, hno, rfl⟩ | exact Or.inr ⟨h2t, k, hk, hok, ⟨fun _ j hj => absurd hj (Nat.not_lt_zero j), fun _ => rfl⟩⟩)
        · skip
          obtain ⟨k, hk, hok⟩ := (htv.resolve_right (fun z => by have := z.1; omega)).2
          have h2t : tv = 0 := by omega
          refine g_iconst C dX6_is_25 (v := (nI ((true).toNat))) rfl ?_
          refine g_goto C dX6_is_26 (tgt := 30) (by decide) ?_
          refine g_istore C dX6_is_30 (by decide) (lv' := [(4, .int (nI ((true).toNat))), (0, .ref n0), (1, .long f), (3, .int o)]) rfl ?_
          refine g_iconst C dX6_is_32 (v := (nI 0)) (by decide) ?_
          refine g_istore C dX6_is_33 (by decide) (lv' := [(5, .int (nI 0)), (4, .int (nI ((true).toNat))), (0, .ref n0), (1, .long f), (3, .int o)]) rfl ?_
          have L35 : ∀ (n9 : Nat) (i : Nat) (b : Bool), 256 - i < n9 → (i ≤ 256) → ((tv = 1 ∧ (o.toInt < 0 ∨ 3 < o.toInt) ∧ b = false) ∨ (tv = 0 ∧ ∃ k, k ≤ 3 ∧ o = nI k ∧ (b = true ↔ ∀ j, j < i → ifB f k (j / 16) (j % 16) = true))) → gG (g_IU A D s) p l e rm_t_X6_is s m args below meth c Q 6 0 0 35 [(5, .int (nI i)), (4, .int (nI b.toNat)), (0, .ref n0), (1, .long f), (3, .int o)] [] [(n0, .inr (5, [.int (nI tv), .ref np, .ref na, .int cp, .ref nc, .int en, .ref nf, .ref nq, .ref no, .ref nx, .ref ny, .ref nl, .ref nh, .ref nb, .ref nw, .int pl, .ref nt, .int tl, .int av, .int wr, .long rs]))] := by
            intro n9
            induction n9 with
            | zero => intro i b hn; exact absurd hn (Nat.not_lt_zero _)
            | succ n9 ih35 =>
              intro i b hn35 hi hb
              have hbl := bt_lt b
              refine g_iload C dX6_is_35 0 rfl ?_
              refine g_sipush C dX6_is_37 (v := (nI 256)) (by decide) ?_
              refine g_icmp_geN C dX6_is_40 (tgt := 71) (by decide) (by omega) (by omega) (fun h40 => ?_) (fun h40 => ?_)
              · skip
                have hx : 256 ≤ i ∨ b = false := Or.inl (by omega)
                refine g_iload C dX6_is_71 1 rfl ?_
                refine hR _ _ _ _ _ _ (bt_z _) dX6_is_73 ?_ (by omega) (by omega)
                rcases hb with ⟨z1, z2, z3⟩ | ⟨z1, k, hk, hok, hall⟩
                · subst z1; subst z3; exact Or.inr ⟨z2, rfl, rfl⟩
                · subst z1; exact Or.inl ⟨k, hk, hok, by rw [is_e hall hi hx], rfl⟩
              · skip
                refine g_iload C dX6_is_43 1 rfl ?_
                refine g_if_eqN C dX6_is_45 (tgt := 71) (by decide) (by omega) (fun h45 => ?_) (fun h45 => ?_)
                · skip
                  have hx : 256 ≤ i ∨ b = false := Or.inr (Bool.eq_false_iff.mpr (b_f h45))
                  refine g_iload C dX6_is_71 1 rfl ?_
                  refine hR _ _ _ _ _ _ (bt_z _) dX6_is_73 ?_ (by omega) (by omega)
                  rcases hb with ⟨z1, z2, z3⟩ | ⟨z1, k, hk, hok, hall⟩
                  · subst z1; subst z3; exact Or.inr ⟨z2, rfl, rfl⟩
                  · subst z1; exact Or.inl ⟨k, hk, hok, by rw [is_e hall hi hx], rfl⟩
                · skip
                  have hbt := b_t h45
                  obtain ⟨htv0, k, hk, rfl, hall⟩ := hb.resolve_left (fun z => by rw [z.2.2] at hbt; exact Bool.false_ne_true hbt)
                  refine g_lload_n C dX6_is_48 3 rfl rfl ?_
                  refine g_iload_n C dX6_is_49 4 rfl rfl ?_
                  refine g_iload C dX6_is_50 0 rfl ?_
                  refine g_bipush C dX6_is_52 (v := (nI 16)) (by decide) ?_
                  refine g_idiv C dX6_is_54 (by decide) (v := (nI (i / 16))) (pk_div (by omega) (by decide) (by decide)) ?_
                  refine g_iload C dX6_is_55 0 rfl ?_
                  refine g_bipush C dX6_is_57 (v := (nI 16)) (by decide) ?_
                  refine g_irem C dX6_is_59 (by decide) (v := (nI (i % 16))) (pk_rem (by omega) (by decide) (by decide)) ?_
                  refine g_callPS C ⟨g_X0_ok, trivial⟩ (t_X6_isFor l D ty f k (i / 16) (i % 16) (by omega) (by omega) (by omega)) rfl gX6_is_X6_isFor 4 (by decide +kernel) rfl ⟨rfl, rfl⟩ ⟨Nat.le_of_ble_eq_true rfl, Nat.le_of_ble_eq_true rfl⟩ (rest := []) [] rfl (Nat.le_of_ble_eq_true rfl) dX6_is_60 ⟨Nat.le_of_ble_eq_true rfl, Nat.le_of_ble_eq_true rfl⟩ rfl (g_ki (fun r hr => ?_))
                  subst hr
                  have := bt_lt (ifB f k (i / 16) (i % 16))
                  refine g_istore C dX6_is_63 (by decide) (lv' := [(4, .int (nI ((ifB f k (i / 16) (i % 16)).toNat))), (5, .int (nI i)), (0, .ref n0), (1, .long f), (3, .int (nI k))]) rfl ?_
                  refine g_iinc C dX6_is_65 1 rfl (v := (nI (i + 1))) (nI_1 i) (by decide) (lv' := [(5, .int (nI (i + 1))), (4, .int (nI ((ifB f k (i / 16) (i % 16)).toNat))), (0, .ref n0), (1, .long f), (3, .int (nI k))]) rfl ?_
                  refine g_goto C dX6_is_68 (tgt := 35) (by decide) ?_
                  exact ih35 (i + 1) _ (by omega) (by omega) (Or.inr ⟨htv0, k, hk, rfl, is_s (hall.mp hbt) Iff.rfl⟩)
          exact L35 _ 0 true (Nat.lt_succ_self _) (by omega) (by first | exact Or.inl ⟨h2t, hno, rfl⟩ | exact Or.inr ⟨h2t, k, hk, hok, ⟨fun _ j hj => absurd hj (Nat.not_lt_zero j), fun _ => rfl⟩⟩)
    exact L15 _ _ (Nat.lt_succ_self _) (by first | exact Or.inr ⟨rfl, in_no (by decide) h7⟩ | exact Or.inl ⟨rfl, in_nI (by decide) h7⟩) (by decide)


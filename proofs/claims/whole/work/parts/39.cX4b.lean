abbrev rm_t_X4_readNumber : Room := ({ frames := 1, cells := 0, slots := 0, locals := 21 } : Room)
set_option maxHeartbeats 4000000 in
set_option maxRecDepth 100000 in
theorem t_X4_readNumber (l : Launch) (D : va_G) (ty : g_T3) (t0 tz tl : Nat) (lf : Int64) (tb : Nat → Nat) (hb : ∀ i, tb i < 256) (htl : tl ≤ 300) (pq : Nat) (hp : pq < tl) (hd1 : 48 ≤ tb pq) (hd2 : tb pq ≤ 57) : g_U l yX4_readNumber wsX4_readNumber rm_t_X4_readNumber D ty g_X0 [.ref t0] [(t0, .inr (3, [.int (nI tl), .long lf, .ref tz, .int (nI pq), .int (-1)])), (tz, .inl (ty.1, 300, .inl (zN tb)))] 0 0 (g_ul (fun r w => ∃ pl er, w = [(t0, .inr (3, [.int (nI tl), .long lf, .ref tz, .int pl, .int er])), (tz, .inl (ty.1, 300, .inl (zN tb)))] ∧ psC (nuR tb tl pq) tl r pl er)) := by
  refine g_ofUl (cc := cX4_readNumber) (nL := 3) (own := RX4) (by decide) rfl rfl g_X0_ok (Nat.le_of_ble_eq_true rfl) ?_
  intro p e s m args below meth c Q A C hA hX hin hR
  refine g_lv (lv' := [(0, .ref t0)]) [0] rfl ?_
  refine g_aload_n C dX4_readNumber_0 0 rfl rfl ?_
  refine g_get C 0 rfl rfl 3 (by decide) (fun _ h => (List.mem_cons_of_mem _ (List.mem_append_right _ h))) 1 rfl rfl rfl dX4_readNumber_1 ?_
  refine g_istore_n C dX4_readNumber_4 rfl (by decide) (lv' := [(1, .int (nI pq)), (0, .ref t0)]) rfl ?_
  refine g_aload_n C dX4_readNumber_5 1 rfl rfl ?_
  refine g_callPV C ⟨g_X0_ok, trivial⟩ (t_X4_here l D ty t0 tz tl lf tb hb htl pq (by omega) (-1)) rfl gX4_readNumber_X4_here 0 (by decide +kernel) rfl ⟨rfl, rfl⟩ ⟨Nat.le_of_ble_eq_true rfl, Nat.le_of_ble_eq_true rfl⟩ (rest := []) (q0 := 0) rfl rfl [0, 1] rfl (Nat.le_of_ble_eq_true rfl) dX4_readNumber_6 ⟨Nat.le_of_ble_eq_true rfl, Nat.le_of_ble_eq_true rfl⟩ rfl (g_ki (fun r hr => ?_))
  subst hr
  refine g_bipush C dX4_readNumber_9 (v := (nI 48)) (by decide) ?_
  refine g_isub C dX4_readNumber_11 (v := (nI (tb pq - 48))) (by rw [hre_t hp]; exact pk_sub (by omega)) ?_
  refine g_istore_n C dX4_readNumber_12 rfl (by decide) (lv' := [(2, .int (nI (tb pq - 48))), (1, .int (nI pq)), (0, .ref t0)]) rfl ?_
  refine g_aload_n C dX4_readNumber_13 2 rfl rfl ?_
  refine g_dup C dX4_readNumber_14 rfl ?_
  refine g_get C 0 rfl rfl 3 (by decide) (fun _ h => (List.mem_cons_of_mem _ (List.mem_append_right _ h))) 1 rfl rfl rfl dX4_readNumber_15 ?_
  refine g_iconst C dX4_readNumber_18 (v := (nI 1)) (by decide) ?_
  refine g_iadd C dX4_readNumber_19 (v := (nI (pq + 1))) (nI_add _ _) ?_
  refine g_put C 0 rfl rfl 3 (by decide) (fun _ h => (List.mem_cons_of_mem _ (List.mem_append_right _ h))) 1 rfl rfl tyX4 tyX4_ok nmX4 rfl rfl rfl rfl (Nat.le_of_ble_eq_true rfl) (ws' := [(t0, .inr (3, [.int (nI tl), .long lf, .ref tz, .int (nI (pq + 1)), .int (-1)])), (tz, .inl (ty.1, 300, .inl (zN tb)))]) rfl dX4_readNumber_20 ?_
  refine g_aload_n C dX4_readNumber_23 2 rfl rfl ?_
  refine g_callPV C ⟨g_X0_ok, trivial⟩ (t_X4_here l D ty t0 tz tl lf tb hb htl (pq + 1) (by omega) (-1)) rfl gX4_readNumber_X4_here 0 (by decide +kernel) rfl ⟨rfl, rfl⟩ ⟨Nat.le_of_ble_eq_true rfl, Nat.le_of_ble_eq_true rfl⟩ (rest := []) (q0 := 0) rfl rfl [0, 1] rfl (Nat.le_of_ble_eq_true rfl) dX4_readNumber_24 ⟨Nat.le_of_ble_eq_true rfl, Nat.le_of_ble_eq_true rfl⟩ rfl (g_ki (fun r hr => ?_))
  subst hr
  refine g_callPS C ⟨g_X0_ok, trivial⟩ (t_X4_isDigit l D ty (hre tb tl (pq + 1))) rfl gX4_readNumber_X4_isDigit 1 (by decide +kernel) rfl ⟨rfl, rfl⟩ ⟨Nat.le_of_ble_eq_true rfl, Nat.le_of_ble_eq_true rfl⟩ (rest := []) [] rfl (Nat.le_of_ble_eq_true rfl) dX4_readNumber_27 ⟨Nat.le_of_ble_eq_true rfl, Nat.le_of_ble_eq_true rfl⟩ rfl (g_ki (fun r hr => ?_))
  subst hr
  have := bt_lt (inB (hre tb tl (pq + 1)) (nI 48) (nI 57))
  refine g_if_eqN C dX4_readNumber_30 (tgt := 56) (by decide) (by omega) (fun h30 => ?_) (fun h30 => ?_)
  · skip
    have hV : nuV tb tl pq = (tb pq - 48, pq + 1) := if_pos h30
    have hq2 : pq + 1 ≤ tl := by omega
    refine g_iload_n C dX4_readNumber_56 0 rfl rfl ?_
    refine g_bipush C dX4_readNumber_57 (v := (nI 16)) (by decide) ?_
    refine g_icmp_geN C dX4_readNumber_59 (tgt := 69) (by decide) (by omega) (by omega) (fun h59 => ?_) (fun h59 => ?_)
    · skip
      have hRR := nu_no hV h59
      refine g_aload_n C dX4_readNumber_69 2 rfl rfl ?_
      refine g_iload_n C dX4_readNumber_70 1 rfl rfl ?_
      refine g_callUV C ⟨g_X0_ok, trivial⟩ (t_X4_failAt l D ty t0 tz (nI tl) lf (nI (pq + 1)) (-1) (nI pq)) rfl gX4_readNumber_X4_failAt 1 (by decide +kernel) rfl ⟨rfl, rfl⟩ ⟨Nat.le_of_ble_eq_true rfl, Nat.le_of_ble_eq_true rfl⟩ (rest := []) (q0 := 0) rfl rfl hA [0] [1] rfl rfl rfl (wr := [(tz, .inl (ty.1, 300, .inl (zN tb)))]) rfl rfl rfl (Nat.le_of_ble_eq_true rfl) dX4_readNumber_71 ⟨Nat.le_of_ble_eq_true rfl, Nat.le_of_ble_eq_true rfl⟩ rfl (g_kul (fun r w hr => ?_))
      obtain ⟨rfl, rfl⟩ := hr
      refine g_ws (ws' := [(t0, .inr (3, [.int (nI tl), .long lf, .ref tz, .int (nI (pq + 1)), .int (nI pq)])), (tz, .inl (ty.1, 300, .inl (zN tb)))]) [1, 0] rfl rfl rfl ?_
      refine hR _ _ _ _ _ _ dX4_readNumber_74 ?_ (by omega) (by omega)
      first
      | exact ⟨_, _, rfl, Or.inl ⟨_, _, hRR, hq2, rfl, rfl, rfl⟩⟩
      | exact ⟨_, _, rfl, Or.inr ⟨_, hRR, by omega, rfl⟩⟩
    · skip
      have hRR := nu_ok hV h59
      refine g_iload_n C dX4_readNumber_62 0 rfl rfl ?_
      refine g_callPS C ⟨g_X0_ok, trivial⟩ (t_X0_constant l D ty (tb pq - 48) (by omega)) rfl gX4_readNumber_X0_constant 1 (by decide +kernel) rfl ⟨rfl, rfl⟩ ⟨Nat.le_of_ble_eq_true rfl, Nat.le_of_ble_eq_true rfl⟩ (rest := []) [] rfl (Nat.le_of_ble_eq_true rfl) dX4_readNumber_63 ⟨Nat.le_of_ble_eq_true rfl, Nat.le_of_ble_eq_true rfl⟩ rfl (g_kl (fun r hr => ?_))
      subst hr
      refine g_goto C dX4_readNumber_66 (tgt := 74) (by decide) ?_
      refine hR _ _ _ _ _ _ dX4_readNumber_74 ?_ (by omega) (by omega)
      first
      | exact ⟨_, _, rfl, Or.inl ⟨_, _, hRR, hq2, rfl, rfl, rfl⟩⟩
      | exact ⟨_, _, rfl, Or.inr ⟨_, hRR, by omega, rfl⟩⟩
  · skip
    have h30b := in_1 h30
    have c48 := nI_toInt (n := 48) (by decide)
    have c57 := nI_toInt (n := 57) (by decide)
    have hp2 : pq + 1 < tl := hre_in (fun z => by rw [z] at h30b; have zz : (-1 : Int32).toInt = -1 := (by decide); omega)
    have hbq := hb (pq + 1)
    rw [hre_t hp2, nI_toInt (show tb (pq + 1) < 2 ^ 31 by omega)] at h30b
    have hV : nuV tb tl pq = ((tb pq - 48) * 10 + tb (pq + 1) - 48, pq + 2) := if_neg h30
    have hq2 : pq + 2 ≤ tl := by omega
    refine g_iload_n C dX4_readNumber_33 0 rfl rfl ?_
    refine g_bipush C dX4_readNumber_34 (v := (nI 10)) (by decide) ?_
    refine g_imul C dX4_readNumber_36 (v := (nI ((tb pq - 48) * 10))) (pk_mul _ _) ?_
    refine g_aload_n C dX4_readNumber_37 2 rfl rfl ?_
    refine g_callPV C ⟨g_X0_ok, trivial⟩ (t_X4_here l D ty t0 tz tl lf tb hb htl (pq + 1) (by omega) (-1)) rfl gX4_readNumber_X4_here 0 (by decide +kernel) rfl ⟨rfl, rfl⟩ ⟨Nat.le_of_ble_eq_true rfl, Nat.le_of_ble_eq_true rfl⟩ (rest := [.int (nI ((tb pq - 48) * 10))]) (q0 := 0) rfl rfl [0, 1] rfl (Nat.le_of_ble_eq_true rfl) dX4_readNumber_38 ⟨Nat.le_of_ble_eq_true rfl, Nat.le_of_ble_eq_true rfl⟩ rfl (g_ki (fun r hr => ?_))
    subst hr
    refine g_iadd C dX4_readNumber_41 (v := (nI ((tb pq - 48) * 10 + tb (pq + 1)))) (by rw [hre_t hp2]; exact nI_add _ _) ?_
    refine g_bipush C dX4_readNumber_42 (v := (nI 48)) (by decide) ?_
    refine g_isub C dX4_readNumber_44 (v := (nI (((tb pq - 48) * 10 + tb (pq + 1)) - 48))) (pk_sub (by omega)) ?_
    refine g_istore_n C dX4_readNumber_45 rfl (by decide) (lv' := [(2, .int (nI (((tb pq - 48) * 10 + tb (pq + 1)) - 48))), (1, .int (nI pq)), (0, .ref t0)]) rfl ?_
    refine g_aload_n C dX4_readNumber_46 2 rfl rfl ?_
    refine g_dup C dX4_readNumber_47 rfl ?_
    refine g_get C 0 rfl rfl 3 (by decide) (fun _ h => (List.mem_cons_of_mem _ (List.mem_append_right _ h))) 1 rfl rfl rfl dX4_readNumber_48 ?_
    refine g_iconst C dX4_readNumber_51 (v := (nI 1)) (by decide) ?_
    refine g_iadd C dX4_readNumber_52 (v := (nI ((pq + 1) + 1))) (nI_add _ _) ?_
    refine g_put C 0 rfl rfl 3 (by decide) (fun _ h => (List.mem_cons_of_mem _ (List.mem_append_right _ h))) 1 rfl rfl tyX4 tyX4_ok nmX4 rfl rfl rfl rfl (Nat.le_of_ble_eq_true rfl) (ws' := [(t0, .inr (3, [.int (nI tl), .long lf, .ref tz, .int (nI ((pq + 1) + 1)), .int (-1)])), (tz, .inl (ty.1, 300, .inl (zN tb)))]) rfl dX4_readNumber_53 ?_
    refine g_iload_n C dX4_readNumber_56 0 rfl rfl ?_
    refine g_bipush C dX4_readNumber_57 (v := (nI 16)) (by decide) ?_
    refine g_icmp_geN C dX4_readNumber_59 (tgt := 69) (by decide) (by omega) (by omega) (fun h59 => ?_) (fun h59 => ?_)
    · skip
      have hRR := nu_no hV h59
      refine g_aload_n C dX4_readNumber_69 2 rfl rfl ?_
      refine g_iload_n C dX4_readNumber_70 1 rfl rfl ?_
      refine g_callUV C ⟨g_X0_ok, trivial⟩ (t_X4_failAt l D ty t0 tz (nI tl) lf (nI ((pq + 1) + 1)) (-1) (nI pq)) rfl gX4_readNumber_X4_failAt 1 (by decide +kernel) rfl ⟨rfl, rfl⟩ ⟨Nat.le_of_ble_eq_true rfl, Nat.le_of_ble_eq_true rfl⟩ (rest := []) (q0 := 0) rfl rfl hA [0] [1] rfl rfl rfl (wr := [(tz, .inl (ty.1, 300, .inl (zN tb)))]) rfl rfl rfl (Nat.le_of_ble_eq_true rfl) dX4_readNumber_71 ⟨Nat.le_of_ble_eq_true rfl, Nat.le_of_ble_eq_true rfl⟩ rfl (g_kul (fun r w hr => ?_))
      obtain ⟨rfl, rfl⟩ := hr
      refine g_ws (ws' := [(t0, .inr (3, [.int (nI tl), .long lf, .ref tz, .int (nI ((pq + 1) + 1)), .int (nI pq)])), (tz, .inl (ty.1, 300, .inl (zN tb)))]) [1, 0] rfl rfl rfl ?_
      refine hR _ _ _ _ _ _ dX4_readNumber_74 ?_ (by omega) (by omega)
      first
      | exact ⟨_, _, rfl, Or.inl ⟨_, _, hRR, hq2, rfl, rfl, rfl⟩⟩
      | exact ⟨_, _, rfl, Or.inr ⟨_, hRR, by omega, rfl⟩⟩
    · skip
      have hRR := nu_ok hV h59
      refine g_iload_n C dX4_readNumber_62 0 rfl rfl ?_
      refine g_callPS C ⟨g_X0_ok, trivial⟩ (t_X0_constant l D ty (((tb pq - 48) * 10 + tb (pq + 1)) - 48) (by omega)) rfl gX4_readNumber_X0_constant 1 (by decide +kernel) rfl ⟨rfl, rfl⟩ ⟨Nat.le_of_ble_eq_true rfl, Nat.le_of_ble_eq_true rfl⟩ (rest := []) [] rfl (Nat.le_of_ble_eq_true rfl) dX4_readNumber_63 ⟨Nat.le_of_ble_eq_true rfl, Nat.le_of_ble_eq_true rfl⟩ rfl (g_kl (fun r hr => ?_))
      subst hr
      refine g_goto C dX4_readNumber_66 (tgt := 74) (by decide) ?_
      refine hR _ _ _ _ _ _ dX4_readNumber_74 ?_ (by omega) (by omega)
      first
      | exact ⟨_, _, rfl, Or.inl ⟨_, _, hRR, hq2, rfl, rfl, rfl⟩⟩
      | exact ⟨_, _, rfl, Or.inr ⟨_, hRR, by omega, rfl⟩⟩


set_option maxHeartbeats 4000000 in
set_option maxRecDepth 100000 in
theorem t_X4_readFormula (l : Launch) (D : va_G) (ty : g_T3) (t0 tz tl : Nat) (lf : Int64) (tb : Nat → Nat) (hb : ∀ i, tb i < 256) (htl : tl ≤ 300) (k dv : Nat) (hP1 : ∀ pq : Nat, pq ≤ tl → g_U l yX4_readPart wsX4_readPart ({ frames := 3 * k + 8, cells := 0, slots := 0, locals := 100 * k + 200 } : Room) D ty g_XN [.ref t0, .int (nI dv)] [(t0, .inr (3, [.int (nI tl), .long lf, .ref tz, .int (nI pq), .int (-1)])), (tz, .inl (ty.1, 300, .inl (zN tb)))] 0 0 (g_ul (fun r w => ∃ pl er, w = [(t0, .inr (3, [.int (nI tl), .long lf, .ref tz, .int pl, .int er])), (tz, .inl (ty.1, 300, .inl (zN tb)))] ∧ psC (paK tb tl k pq) tl r pl er))) (pq : Nat) (hp : pq ≤ tl) : g_U l yX4_readFormula wsX4_readFormula ({ frames := 3 * k + 9, cells := 0, slots := 0, locals := 100 * k + 230 } : Room) D ty g_XN [.ref t0, .int (nI dv)] [(t0, .inr (3, [.int (nI tl), .long lf, .ref tz, .int (nI pq), .int (-1)])), (tz, .inl (ty.1, 300, .inl (zN tb)))] 0 0 (g_ul (fun r w => ∃ pl er, w = [(t0, .inr (3, [.int (nI tl), .long lf, .ref tz, .int pl, .int er])), (tz, .inl (ty.1, 300, .inl (zN tb)))] ∧ psC (foR tb tl (paK tb tl k) pq) tl r pl er)) := by
  refine g_ofUl (cc := cX4_readFormula) (nL := 7) (own := RX4) (by decide) rfl rfl g_XN_ok (Nat.le_of_ble_eq_true rfl) ?_
  intro p e s m args below meth c Q A C hA hX hin hR
  refine g_lv (lv' := [(0, .ref t0), (1, .int (nI dv))]) [0, 1] rfl ?_
  refine g_aload_n C dX4_readFormula_0 0 rfl rfl ?_
  refine g_iload_n C dX4_readFormula_1 1 rfl rfl ?_
  refine g_callUV C hX (hP1 pq (by omega)) rfl gX4_readFormula_X4_readPart 1 (by decide +kernel) rfl ⟨rfl, rfl⟩ ⟨by show _ ≤ _; simp only []; omega, by show _ ≤ _; simp only []; omega⟩ (rest := []) (q0 := 0) rfl rfl hA [0, 1] [] rfl rfl rfl (wr := []) rfl rfl rfl (Nat.le_of_ble_eq_true rfl) dX4_readFormula_2 ⟨Nat.le_of_ble_eq_true rfl, Nat.le_of_ble_eq_true rfl⟩ rfl (g_kul (fun r2 w hr => ?_))
  obtain ⟨pl2, er2, rfl, hP2⟩ := hr
  refine g_ws (ws' := [(t0, .inr (3, [.int (nI tl), .long lf, .ref tz, .int pl2, .int er2])), (tz, .inl (ty.1, 300, .inl (zN tb)))]) [0, 1] rfl rfl rfl ?_
  refine g_lstore_n C dX4_readFormula_5 rfl (by decide) (lv' := [(2, .long r2), (0, .ref t0), (1, .int (nI dv))]) rfl ?_
  refine g_aload_n C dX4_readFormula_6 1 rfl rfl ?_
  refine g_callPV C ⟨g_X0_ok, trivial⟩ (t_X4_hasError l D ty t0 tz (nI tl) lf pl2 er2) rfl gX4_readFormula_X4_hasError 0 (by decide +kernel) rfl ⟨rfl, rfl⟩ ⟨Nat.le_of_ble_eq_true rfl, Nat.le_of_ble_eq_true rfl⟩ (rest := []) (q0 := 0) rfl rfl [0] rfl (Nat.le_of_ble_eq_true rfl) dX4_readFormula_7 ⟨Nat.le_of_ble_eq_true rfl, Nat.le_of_ble_eq_true rfl⟩ rfl (g_ki (fun r hr => ?_))
  subst hr
  have := bt_lt (heB er2)
  refine g_if_eqN C dX4_readFormula_10 (tgt := 15) (by decide) (by omega) (fun h10 => ?_) (fun h10 => ?_)
  · skip
    have hz2 := he_0 h10
    obtain ⟨f2, q2, hA2, hq2, hr2, hpl2⟩ := psC_ok htl hP2 hz2
    subst hr2
    subst hpl2
    subst hz2
    refine g_aload_n C dX4_readFormula_15 1 rfl rfl ?_
    refine g_callUV C ⟨g_X0_ok, trivial⟩ (t_X4_next l D ty t0 tz tl lf tb hb htl q2 (by omega) (-1)) rfl gX4_readFormula_X4_next 0 (by decide +kernel) rfl ⟨rfl, rfl⟩ ⟨Nat.le_of_ble_eq_true rfl, Nat.le_of_ble_eq_true rfl⟩ (rest := []) (q0 := 0) rfl rfl hA [0, 1] [] rfl rfl rfl (wr := []) rfl rfl rfl (Nat.le_of_ble_eq_true rfl) dX4_readFormula_16 ⟨Nat.le_of_ble_eq_true rfl, Nat.le_of_ble_eq_true rfl⟩ rfl (g_kui (fun r w hr => ?_))
    obtain ⟨rfl, rfl⟩ := hr
    have hn16 := nxt_le (tb := tb) (tl := tl) (p := q2) (by omega)
    refine g_ws (ws' := [(t0, .inr (3, [.int (nI tl), .long lf, .ref tz, .int (nI (nxt tb tl q2)), .int (-1)])), (tz, .inl (ty.1, 300, .inl (zN tb)))]) [0, 1] rfl rfl rfl ?_
    refine g_iconst C dX4_readFormula_19 (v := (nI 4)) (by decide) ?_
    refine g_bipush C dX4_readFormula_20 (v := (nI 10)) (by decide) ?_
    refine g_callPS C hX (t_X4_operationOf l D ty (hre tb tl (nxt tb tl q2)) 4 10 (by decide) (by decide)) rfl gX4_readFormula_X4_operationOf 3 (by decide +kernel) rfl ⟨rfl, rfl⟩ ⟨Nat.le_of_ble_eq_true rfl, Nat.le_of_ble_eq_true rfl⟩ (rest := []) [] rfl (Nat.le_of_ble_eq_true rfl) dX4_readFormula_22 ⟨Nat.le_of_ble_eq_true rfl, Nat.le_of_ble_eq_true rfl⟩ rfl (g_ki (fun r hr => ?_))
    subst hr
    refine g_istore C dX4_readFormula_25 (by decide) (lv' := [(4, .int (opS (hre tb tl (nxt tb tl q2)) 6 4)), (2, .long r2), (0, .ref t0), (1, .int (nI dv))]) rfl ?_
    refine g_iload C dX4_readFormula_27 0 rfl ?_
    refine g_iconst C dX4_readFormula_29 (v := (-1)) (by decide) ?_
    refine g_icmp_ne C dX4_readFormula_30 (tgt := 35) (by decide) (fun h30 => ?_) (fun h30 => ?_)
    · skip
      have ho : ¬ opS (hre tb tl (nxt tb tl q2)) 6 4 = -1 := fun z => h30 (t_eq.mp z)
      obtain ⟨o, ho1, ho2, ho3, ho4⟩ := opS_nI ho
      have hlt := hre_in (tb := tb) (tl := tl) (p := nxt tb tl q2) (by rw [ho4]; exact nI_m1 (by have := sgn_lt o; omega))
      rw [ho3]
      refine g_aload_n C dX4_readFormula_35 2 rfl rfl ?_
      refine g_dup C dX4_readFormula_36 rfl ?_
      refine g_get C 0 rfl rfl 3 (by decide) (fun _ h => (List.mem_cons_of_mem _ (List.mem_append_right _ h))) 1 rfl rfl rfl dX4_readFormula_37 ?_
      refine g_iconst C dX4_readFormula_40 (v := (nI 1)) (by decide) ?_
      refine g_iadd C dX4_readFormula_41 (v := (nI ((nxt tb tl q2) + 1))) (nI_add _ _) ?_
      refine g_put C 0 rfl rfl 3 (by decide) (fun _ h => (List.mem_cons_of_mem _ (List.mem_append_right _ h))) 1 rfl rfl tyX4 tyX4_ok nmX4 rfl rfl rfl rfl (Nat.le_of_ble_eq_true rfl) (ws' := [(t0, .inr (3, [.int (nI tl), .long lf, .ref tz, .int (nI ((nxt tb tl q2) + 1)), .int (-1)])), (tz, .inl (ty.1, 300, .inl (zN tb)))]) rfl dX4_readFormula_42 ?_
      refine g_aload_n C dX4_readFormula_45 2 rfl rfl ?_
      refine g_iload_n C dX4_readFormula_46 3 rfl rfl ?_
      refine g_callUV C hX (hP1 ((nxt tb tl q2) + 1) (by omega)) rfl gX4_readFormula_X4_readPart 1 (by decide +kernel) rfl ⟨rfl, rfl⟩ ⟨by show _ ≤ _; simp only []; omega, by show _ ≤ _; simp only []; omega⟩ (rest := []) (q0 := 0) rfl rfl hA [0, 1] [] rfl rfl rfl (wr := []) rfl rfl rfl (Nat.le_of_ble_eq_true rfl) dX4_readFormula_47 ⟨Nat.le_of_ble_eq_true rfl, Nat.le_of_ble_eq_true rfl⟩ rfl (g_kul (fun r47 w hr => ?_))
      obtain ⟨pl47, er47, rfl, hP47⟩ := hr
      refine g_ws (ws' := [(t0, .inr (3, [.int (nI tl), .long lf, .ref tz, .int pl47, .int er47])), (tz, .inl (ty.1, 300, .inl (zN tb)))]) [0, 1] rfl rfl rfl ?_
      refine g_lstore C dX4_readFormula_50 (by decide) (lv' := [(5, .long r47), (4, .int (nI o)), (2, .long r2), (0, .ref t0), (1, .int (nI dv))]) rfl ?_
      refine g_aload_n C dX4_readFormula_52 3 rfl rfl ?_
      refine g_callPV C ⟨g_X0_ok, trivial⟩ (t_X4_hasError l D ty t0 tz (nI tl) lf pl47 er47) rfl gX4_readFormula_X4_hasError 0 (by decide +kernel) rfl ⟨rfl, rfl⟩ ⟨Nat.le_of_ble_eq_true rfl, Nat.le_of_ble_eq_true rfl⟩ (rest := []) (q0 := 0) rfl rfl [0] rfl (Nat.le_of_ble_eq_true rfl) dX4_readFormula_53 ⟨Nat.le_of_ble_eq_true rfl, Nat.le_of_ble_eq_true rfl⟩ rfl (g_ki (fun r hr => ?_))
      subst hr
      have := bt_lt (heB er47)
      refine g_if_eqN C dX4_readFormula_56 (tgt := 63) (by decide) (by omega) (fun h56 => ?_) (fun h56 => ?_)
      · skip
        have hz47 := he_0 h56
        obtain ⟨f3, q3, hA47, hq47, hr47, hpl47⟩ := psC_ok htl hP47 hz47
        subst hr47
        subst hpl47
        subst hz47
        refine g_iload C dX4_readFormula_63 1 rfl ?_
        refine g_lload_n C dX4_readFormula_65 2 rfl rfl ?_
        refine g_lload C dX4_readFormula_66 0 rfl ?_
        refine g_callPS C ⟨g_X0_ok, trivial⟩ (t_X0_made l D ty o (by omega) r2 r47) rfl gX4_readFormula_X0_made 3 (by decide +kernel) rfl ⟨rfl, rfl⟩ ⟨Nat.le_of_ble_eq_true rfl, Nat.le_of_ble_eq_true rfl⟩ (rest := []) [] rfl (Nat.le_of_ble_eq_true rfl) dX4_readFormula_68 ⟨Nat.le_of_ble_eq_true rfl, Nat.le_of_ble_eq_true rfl⟩ rfl (g_kl (fun r hr => ?_))
        subst hr
        refine hR _ _ _ _ _ _ dX4_readFormula_71 ?_ (by omega) (by omega)
        first
        | exact ⟨_, _, rfl, Or.inl ⟨_, _, fo_2 hA2 ho3 (by omega) hA47, hq47, rfl, rfl, rfl⟩⟩
        | exact ⟨_, _, rfl, Or.inr ⟨_, fo_2e hA2 ho hA47, hq47, hz47⟩⟩
      · skip
        obtain ⟨e47, hA47, hq47, hz47⟩ := psC_er hP47 (he_1 h56)
        refine g_lconst C dX4_readFormula_59 (v := 0) (by decide) ?_
        refine g_goto C dX4_readFormula_60 (tgt := 71) (by decide) ?_
        refine hR _ _ _ _ _ _ dX4_readFormula_71 ?_ (by omega) (by omega)
        first
        | exact ⟨_, _, rfl, Or.inl ⟨_, _, fo_2 hA2 ho3 (by omega) hA47, hq47, rfl, rfl, rfl⟩⟩
        | exact ⟨_, _, rfl, Or.inr ⟨_, fo_2e hA2 ho hA47, hq47, hz47⟩⟩
    · skip
      have ho : opS (hre tb tl (nxt tb tl q2)) 6 4 = -1 := t_eq.mpr h30
      refine g_lload_n C dX4_readFormula_33 1 rfl rfl ?_
      refine hR _ _ _ _ _ _ dX4_readFormula_34 ?_ (by omega) (by omega)
      exact ⟨_, _, rfl, Or.inl ⟨_, _, fo_0 hA2 ho, by omega, rfl, rfl, rfl⟩⟩
  · skip
    obtain ⟨e2, hA2, hq2, hz2⟩ := psC_er hP2 (he_1 h10)
    refine g_lconst C dX4_readFormula_13 (v := 0) (by decide) ?_
    refine hR _ _ _ _ _ _ dX4_readFormula_14 ?_ (by omega) (by omega)
    exact ⟨_, _, rfl, Or.inr ⟨_, fo_e hA2, hq2, hz2⟩⟩


set_option maxHeartbeats 4000000 in
set_option maxRecDepth 100000 in
theorem t_X4_readEnclosed (l : Launch) (D : va_G) (ty : g_T3) (t0 tz tl : Nat) (lf : Int64) (tb : Nat → Nat) (hb : ∀ i, tb i < 256) (htl : tl ≤ 300) (k dv : Nat) (hF1 : ∀ pq : Nat, pq ≤ tl → g_U l yX4_readFormula wsX4_readFormula ({ frames := 3 * k + 9, cells := 0, slots := 0, locals := 100 * k + 230 } : Room) D ty g_XN [.ref t0, .int (nI dv)] [(t0, .inr (3, [.int (nI tl), .long lf, .ref tz, .int (nI pq), .int (-1)])), (tz, .inl (ty.1, 300, .inl (zN tb)))] 0 0 (g_ul (fun r w => ∃ pl er, w = [(t0, .inr (3, [.int (nI tl), .long lf, .ref tz, .int pl, .int er])), (tz, .inl (ty.1, 300, .inl (zN tb)))] ∧ psC (foR tb tl (paK tb tl k) pq) tl r pl er))) (pq : Nat) (hp : pq ≤ tl) : g_U l yX4_readEnclosed wsX4_readEnclosed ({ frames := 3 * k + 10, cells := 0, slots := 0, locals := 100 * k + 260 } : Room) D ty g_XN [.ref t0, .int (nI dv)] [(t0, .inr (3, [.int (nI tl), .long lf, .ref tz, .int (nI pq), .int (-1)])), (tz, .inl (ty.1, 300, .inl (zN tb)))] 0 0 (g_ul (fun r w => ∃ pl er, w = [(t0, .inr (3, [.int (nI tl), .long lf, .ref tz, .int pl, .int er])), (tz, .inl (ty.1, 300, .inl (zN tb)))] ∧ psC (enR tb tl (foR tb tl (paK tb tl k) pq)) tl r pl er)) := by
  refine g_ofUl (cc := cX4_readEnclosed) (nL := 4) (own := RX4) (by decide) rfl rfl g_XN_ok (Nat.le_of_ble_eq_true rfl) ?_
  intro p e s m args below meth c Q A C hA hX hin hR
  refine g_lv (lv' := [(0, .ref t0), (1, .int (nI dv))]) [0, 1] rfl ?_
  refine g_aload_n C dX4_readEnclosed_0 0 rfl rfl ?_
  refine g_iload_n C dX4_readEnclosed_1 1 rfl rfl ?_
  refine g_callUV C hX (hF1 pq (by omega)) rfl gX4_readEnclosed_X4_readFormula 1 (by decide +kernel) rfl ⟨rfl, rfl⟩ ⟨by show _ ≤ _; simp only []; omega, by show _ ≤ _; simp only []; omega⟩ (rest := []) (q0 := 0) rfl rfl hA [0, 1] [] rfl rfl rfl (wr := []) rfl rfl rfl (Nat.le_of_ble_eq_true rfl) dX4_readEnclosed_2 ⟨Nat.le_of_ble_eq_true rfl, Nat.le_of_ble_eq_true rfl⟩ rfl (g_kul (fun r2 w hr => ?_))
  obtain ⟨pl2, er2, rfl, hP2⟩ := hr
  refine g_ws (ws' := [(t0, .inr (3, [.int (nI tl), .long lf, .ref tz, .int pl2, .int er2])), (tz, .inl (ty.1, 300, .inl (zN tb)))]) [0, 1] rfl rfl rfl ?_
  refine g_lstore_n C dX4_readEnclosed_5 rfl (by decide) (lv' := [(2, .long r2), (0, .ref t0), (1, .int (nI dv))]) rfl ?_
  refine g_aload_n C dX4_readEnclosed_6 1 rfl rfl ?_
  refine g_callPV C ⟨g_X0_ok, trivial⟩ (t_X4_hasError l D ty t0 tz (nI tl) lf pl2 er2) rfl gX4_readEnclosed_X4_hasError 0 (by decide +kernel) rfl ⟨rfl, rfl⟩ ⟨Nat.le_of_ble_eq_true rfl, Nat.le_of_ble_eq_true rfl⟩ (rest := []) (q0 := 0) rfl rfl [0] rfl (Nat.le_of_ble_eq_true rfl) dX4_readEnclosed_7 ⟨Nat.le_of_ble_eq_true rfl, Nat.le_of_ble_eq_true rfl⟩ rfl (g_ki (fun r hr => ?_))
  subst hr
  have := bt_lt (heB er2)
  refine g_if_eqN C dX4_readEnclosed_10 (tgt := 15) (by decide) (by omega) (fun h10 => ?_) (fun h10 => ?_)
  · skip
    have hz2 := he_0 h10
    obtain ⟨f2, q2, hA2, hq2, hr2, hpl2⟩ := psC_ok htl hP2 hz2
    subst hr2
    subst hpl2
    subst hz2
    refine g_aload_n C dX4_readEnclosed_15 1 rfl rfl ?_
    refine g_callUV C ⟨g_X0_ok, trivial⟩ (t_X4_next l D ty t0 tz tl lf tb hb htl q2 (by omega) (-1)) rfl gX4_readEnclosed_X4_next 0 (by decide +kernel) rfl ⟨rfl, rfl⟩ ⟨Nat.le_of_ble_eq_true rfl, Nat.le_of_ble_eq_true rfl⟩ (rest := []) (q0 := 0) rfl rfl hA [0, 1] [] rfl rfl rfl (wr := []) rfl rfl rfl (Nat.le_of_ble_eq_true rfl) dX4_readEnclosed_16 ⟨Nat.le_of_ble_eq_true rfl, Nat.le_of_ble_eq_true rfl⟩ rfl (g_kui (fun r w hr => ?_))
    obtain ⟨rfl, rfl⟩ := hr
    have hn16 := nxt_le (tb := tb) (tl := tl) (p := q2) (by omega)
    refine g_ws (ws' := [(t0, .inr (3, [.int (nI tl), .long lf, .ref tz, .int (nI (nxt tb tl q2)), .int (-1)])), (tz, .inl (ty.1, 300, .inl (zN tb)))]) [0, 1] rfl rfl rfl ?_
    refine g_bipush C dX4_readEnclosed_19 (v := (nI 41)) (by decide) ?_
    refine g_icmp_eq C dX4_readEnclosed_21 (tgt := 33) (by decide) (fun h21 => ?_) (fun h21 => ?_)
    · skip
      have h41 : hre tb tl (nxt tb tl q2) = nI 41 := t_eq.mpr h21
      have hlt := hre_nI (by decide) h41
      refine g_aload_n C dX4_readEnclosed_33 1 rfl rfl ?_
      refine g_dup C dX4_readEnclosed_34 rfl ?_
      refine g_get C 0 rfl rfl 3 (by decide) (fun _ h => (List.mem_cons_of_mem _ (List.mem_append_right _ h))) 1 rfl rfl rfl dX4_readEnclosed_35 ?_
      refine g_iconst C dX4_readEnclosed_38 (v := (nI 1)) (by decide) ?_
      refine g_iadd C dX4_readEnclosed_39 (v := (nI ((nxt tb tl q2) + 1))) (nI_add _ _) ?_
      refine g_put C 0 rfl rfl 3 (by decide) (fun _ h => (List.mem_cons_of_mem _ (List.mem_append_right _ h))) 1 rfl rfl tyX4 tyX4_ok nmX4 rfl rfl rfl rfl (Nat.le_of_ble_eq_true rfl) (ws' := [(t0, .inr (3, [.int (nI tl), .long lf, .ref tz, .int (nI ((nxt tb tl q2) + 1)), .int (-1)])), (tz, .inl (ty.1, 300, .inl (zN tb)))]) rfl dX4_readEnclosed_40 ?_
      refine g_lload_n C dX4_readEnclosed_43 0 rfl rfl ?_
      refine hR _ _ _ _ _ _ dX4_readEnclosed_44 ?_ (by omega) (by omega)
      exact ⟨_, _, rfl, Or.inl ⟨_, _, en_ok hA2 h41, by omega, rfl, rfl, rfl⟩⟩
    · skip
      have h41 : ¬ hre tb tl (nxt tb tl q2) = nI 41 := fun z => h21 (t_eq.mp z)
      refine g_aload_n C dX4_readEnclosed_24 1 rfl rfl ?_
      refine g_aload_n C dX4_readEnclosed_25 1 rfl rfl ?_
      refine g_get C 0 rfl rfl 3 (by decide) (fun _ h => (List.mem_cons_of_mem _ (List.mem_append_right _ h))) 1 rfl rfl rfl dX4_readEnclosed_26 ?_
      refine g_callUV C ⟨g_X0_ok, trivial⟩ (t_X4_failAt l D ty t0 tz (nI tl) lf (nI (nxt tb tl q2)) (-1) (nI (nxt tb tl q2))) rfl gX4_readEnclosed_X4_failAt 1 (by decide +kernel) rfl ⟨rfl, rfl⟩ ⟨Nat.le_of_ble_eq_true rfl, Nat.le_of_ble_eq_true rfl⟩ (rest := []) (q0 := 0) rfl rfl hA [0] [1] rfl rfl rfl (wr := [(tz, .inl (ty.1, 300, .inl (zN tb)))]) rfl rfl rfl (Nat.le_of_ble_eq_true rfl) dX4_readEnclosed_29 ⟨Nat.le_of_ble_eq_true rfl, Nat.le_of_ble_eq_true rfl⟩ rfl (g_kul (fun r w hr => ?_))
      obtain ⟨rfl, rfl⟩ := hr
      refine g_ws (ws' := [(t0, .inr (3, [.int (nI tl), .long lf, .ref tz, .int (nI (nxt tb tl q2)), .int (nI (nxt tb tl q2))])), (tz, .inl (ty.1, 300, .inl (zN tb)))]) [1, 0] rfl rfl rfl ?_
      refine hR _ _ _ _ _ _ dX4_readEnclosed_32 ?_ (by omega) (by omega)
      exact ⟨_, _, rfl, Or.inr ⟨_, en_no hA2 h41, by omega, rfl⟩⟩
  · skip
    obtain ⟨e2, hA2, hq2, hz2⟩ := psC_er hP2 (he_1 h10)
    refine g_lconst C dX4_readEnclosed_13 (v := 0) (by decide) ?_
    refine hR _ _ _ _ _ _ dX4_readEnclosed_14 ?_ (by omega) (by omega)
    exact ⟨_, _, rfl, Or.inr ⟨_, en_e hA2, hq2, hz2⟩⟩


set_option maxHeartbeats 4000000 in
set_option maxRecDepth 100000 in
theorem t_X4_readPart (l : Launch) (D : va_G) (ty : g_T3) (t0 tz tl : Nat) (lf : Int64) (tb : Nat → Nat) (hb : ∀ i, tb i < 256) (htl : tl ≤ 300) (k dv : Nat) (hkd : dv + k = 20) (hE1 : 0 < k → ∀ pq : Nat, pq ≤ tl → g_U l yX4_readEnclosed wsX4_readEnclosed ({ frames := 3 * (k - 1) + 10, cells := 0, slots := 0, locals := 100 * (k - 1) + 260 } : Room) D ty g_XN [.ref t0, .int (nI (dv + 1))] [(t0, .inr (3, [.int (nI tl), .long lf, .ref tz, .int (nI pq), .int (-1)])), (tz, .inl (ty.1, 300, .inl (zN tb)))] 0 0 (g_ul (fun r w => ∃ pl er, w = [(t0, .inr (3, [.int (nI tl), .long lf, .ref tz, .int pl, .int er])), (tz, .inl (ty.1, 300, .inl (zN tb)))] ∧ psC (enR tb tl (foR tb tl (paK tb tl (k - 1)) pq)) tl r pl er))) (hQ1 : 0 < k → ∀ pq : Nat, pq ≤ tl → g_U l yX4_readPart wsX4_readPart ({ frames := 3 * (k - 1) + 8, cells := 0, slots := 0, locals := 100 * (k - 1) + 200 } : Room) D ty g_XN [.ref t0, .int (nI (dv + 1))] [(t0, .inr (3, [.int (nI tl), .long lf, .ref tz, .int (nI pq), .int (-1)])), (tz, .inl (ty.1, 300, .inl (zN tb)))] 0 0 (g_ul (fun r w => ∃ pl er, w = [(t0, .inr (3, [.int (nI tl), .long lf, .ref tz, .int pl, .int er])), (tz, .inl (ty.1, 300, .inl (zN tb)))] ∧ psC (paK tb tl (k - 1) pq) tl r pl er))) (pq : Nat) (hp : pq ≤ tl) : g_U l yX4_readPart wsX4_readPart ({ frames := 3 * k + 8, cells := 0, slots := 0, locals := 100 * k + 200 } : Room) D ty g_XN [.ref t0, .int (nI dv)] [(t0, .inr (3, [.int (nI tl), .long lf, .ref tz, .int (nI pq), .int (-1)])), (tz, .inl (ty.1, 300, .inl (zN tb)))] 0 0 (g_ul (fun r w => ∃ pl er, w = [(t0, .inr (3, [.int (nI tl), .long lf, .ref tz, .int pl, .int er])), (tz, .inl (ty.1, 300, .inl (zN tb)))] ∧ psC (paK tb tl k pq) tl r pl er)) := by
  refine g_ofUl (cc := cX4_readPart) (nL := 5) (own := RX4) (by decide) rfl rfl g_XN_ok (Nat.le_of_ble_eq_true rfl) ?_
  intro p e s m args below meth c Q A C hA hX hin hR
  refine g_lv (lv' := [(0, .ref t0), (1, .int (nI dv))]) [0, 1] rfl ?_
  refine g_aload_n C dX4_readPart_0 0 rfl rfl ?_
  refine g_callUV C ⟨g_X0_ok, trivial⟩ (t_X4_next l D ty t0 tz tl lf tb hb htl pq (by omega) (-1)) rfl gX4_readPart_X4_next 0 (by decide +kernel) rfl ⟨rfl, rfl⟩ ⟨Nat.le_of_ble_eq_true rfl, Nat.le_of_ble_eq_true rfl⟩ (rest := []) (q0 := 0) rfl rfl hA [0, 1] [] rfl rfl rfl (wr := []) rfl rfl rfl (Nat.le_of_ble_eq_true rfl) dX4_readPart_1 ⟨Nat.le_of_ble_eq_true rfl, Nat.le_of_ble_eq_true rfl⟩ rfl (g_kui (fun r w hr => ?_))
  obtain ⟨rfl, rfl⟩ := hr
  have hn1 := nxt_le (tb := tb) (tl := tl) (p := pq) (by omega)
  refine g_ws (ws' := [(t0, .inr (3, [.int (nI tl), .long lf, .ref tz, .int (nI (nxt tb tl pq)), .int (-1)])), (tz, .inl (ty.1, 300, .inl (zN tb)))]) [0, 1] rfl rfl rfl ?_
  refine g_istore_n C dX4_readPart_4 rfl (by decide) (lv' := [(2, .int (hre tb tl (nxt tb tl pq))), (0, .ref t0), (1, .int (nI dv))]) rfl ?_
  refine g_iload_n C dX4_readPart_5 0 rfl rfl ?_
  refine g_bipush C dX4_readPart_6 (v := (nI 120)) (by decide) ?_
  refine g_icmp_ne C dX4_readPart_8 (tgt := 25) (by decide) (fun h8 => ?_) (fun h8 => ?_)
  · skip
    have h120 : ¬ (hre tb tl (nxt tb tl pq)) = nI 120 := fun z => h8 (t_eq.mp z)
    refine g_iload_n C dX4_readPart_25 0 rfl rfl ?_
    refine g_callPS C ⟨g_X0_ok, trivial⟩ (t_X4_isDigit l D ty (hre tb tl (nxt tb tl pq))) rfl gX4_readPart_X4_isDigit 1 (by decide +kernel) rfl ⟨rfl, rfl⟩ ⟨Nat.le_of_ble_eq_true rfl, Nat.le_of_ble_eq_true rfl⟩ (rest := []) [] rfl (Nat.le_of_ble_eq_true rfl) dX4_readPart_26 ⟨Nat.le_of_ble_eq_true rfl, Nat.le_of_ble_eq_true rfl⟩ rfl (g_ki (fun r hr => ?_))
    subst hr
    have := bt_lt (inB (hre tb tl (nxt tb tl pq)) (nI 48) (nI 57))
    refine g_if_eqN C dX4_readPart_29 (tgt := 37) (by decide) (by omega) (fun h29 => ?_) (fun h29 => ?_)
    · skip
      refine g_iload_n C dX4_readPart_37 0 rfl rfl ?_
      refine g_iconst C dX4_readPart_38 (v := (nI 0)) (by decide) ?_
      refine g_iconst C dX4_readPart_39 (v := (nI 4)) (by decide) ?_
      refine g_callPS C hX (t_X4_operationOf l D ty (hre tb tl (nxt tb tl pq)) 0 4 (by decide) (by decide)) rfl gX4_readPart_X4_operationOf 3 (by decide +kernel) rfl ⟨rfl, rfl⟩ ⟨Nat.le_of_ble_eq_true rfl, Nat.le_of_ble_eq_true rfl⟩ (rest := []) [] rfl (Nat.le_of_ble_eq_true rfl) dX4_readPart_40 ⟨Nat.le_of_ble_eq_true rfl, Nat.le_of_ble_eq_true rfl⟩ rfl (g_ki (fun r hr => ?_))
      subst hr
      refine g_istore_n C dX4_readPart_43 rfl (by decide) (lv' := [(3, .int (opS (hre tb tl (nxt tb tl pq)) 4 0)), (2, .int (hre tb tl (nxt tb tl pq))), (0, .ref t0), (1, .int (nI dv))]) rfl ?_
      refine g_iload_n C dX4_readPart_44 1 rfl rfl ?_
      refine g_bipush C dX4_readPart_45 (v := (nI 40)) (by decide) ?_
      refine g_icmp_ne C dX4_readPart_47 (tgt := 54) (by decide) (fun h47 => ?_) (fun h47 => ?_)
      · skip
        have hd40 : deB ((hre tb tl (nxt tb tl pq)) = nI 40) = false := deB_f (fun z => h47 (t_eq.mp z))
        refine g_iconst C dX4_readPart_54 (v := (nI ((deB ((hre tb tl (nxt tb tl pq)) = nI 40)).toNat))) (by rw [hd40]; rfl) ?_
        have L55 : ∀ (n9 : Nat) , 0 < n9 → gG (g_IU A D s) p l e ({ frames := 3 * k + 8, cells := 0, slots := 0, locals := 100 * k + 200 } : Room) s m args below meth c Q 5 0 0 55 [(3, .int (opS (hre tb tl (nxt tb tl pq)) 4 0)), (2, .int (hre tb tl (nxt tb tl pq))), (0, .ref t0), (1, .int (nI dv))] [.int (nI ((deB ((hre tb tl (nxt tb tl pq)) = nI 40)).toNat))] [(t0, .inr (3, [.int (nI tl), .long lf, .ref tz, .int (nI (nxt tb tl pq)), .int (-1)])), (tz, .inl (ty.1, 300, .inl (zN tb)))] := by
          intro n9
          induction n9 with
          | zero => intro  hn; exact absurd hn (Nat.not_lt_zero _)
          | succ n9 ih55 =>
            intro  hn55 
            refine g_istore C dX4_readPart_55 (by decide) (lv' := [(4, .int (nI ((deB ((hre tb tl (nxt tb tl pq)) = nI 40)).toNat))), (3, .int (opS (hre tb tl (nxt tb tl pq)) 4 0)), (2, .int (hre tb tl (nxt tb tl pq))), (0, .ref t0), (1, .int (nI dv))]) rfl ?_
            have hbt := bt_lt (deB ((hre tb tl (nxt tb tl pq)) = nI 40))
            refine g_iload C dX4_readPart_57 0 rfl ?_
            refine g_if_neN C dX4_readPart_59 (tgt := 67) (by decide) (by omega) (fun h59 => ?_) (fun h59 => ?_)
            · skip
              have L67 : ∀ (n9 : Nat) , 0 < n9 → (¬ (¬ (hre tb tl (nxt tb tl pq)) = nI 40 ∧ opS (hre tb tl (nxt tb tl pq)) 4 0 = -1)) → gG (g_IU A D s) p l e ({ frames := 3 * k + 8, cells := 0, slots := 0, locals := 100 * k + 200 } : Room) s m args below meth c Q 5 0 0 67 [(4, .int (nI ((deB ((hre tb tl (nxt tb tl pq)) = nI 40)).toNat))), (3, .int (opS (hre tb tl (nxt tb tl pq)) 4 0)), (2, .int (hre tb tl (nxt tb tl pq))), (0, .ref t0), (1, .int (nI dv))] [] [(t0, .inr (3, [.int (nI tl), .long lf, .ref tz, .int (nI (nxt tb tl pq)), .int (-1)])), (tz, .inl (ty.1, 300, .inl (zN tb)))] := by
                intro n9
                induction n9 with
                | zero => intro  hn; exact absurd hn (Nat.not_lt_zero _)
                | succ n9 ih67 =>
                  intro  hn67 h67
                  refine g_iload_n C dX4_readPart_67 4 rfl rfl ?_
                  refine g_bipush C dX4_readPart_68 (v := (nI 20)) (by decide) ?_
                  refine g_icmp_ltN C dX4_readPart_70 (tgt := 82) (by decide) (by omega) (by omega) (fun h70 => ?_) (fun h70 => ?_)
                  · skip
                    have hk : 0 < k := by omega
                    have hlt : nxt tb tl pq < tl := hre_in (fun z => by by_cases q40 : (hre tb tl (nxt tb tl pq)) = nI 40; rw [z] at q40; exact absurd q40 (by decide); obtain ⟨o, o1, o2, o3, o4⟩ := opS_nI (fun y => h67 ⟨q40, y⟩); rw [z] at o4; exact nI_m1 (by have := sgn_lt o; omega) o4.symm)
                    refine g_aload_n C dX4_readPart_82 3 rfl rfl ?_
                    refine g_dup C dX4_readPart_83 rfl ?_
                    refine g_get C 0 rfl rfl 3 (by decide) (fun _ h => (List.mem_cons_of_mem _ (List.mem_append_right _ h))) 1 rfl rfl rfl dX4_readPart_84 ?_
                    refine g_iconst C dX4_readPart_87 (v := (nI 1)) (by decide) ?_
                    refine g_iadd C dX4_readPart_88 (v := (nI ((nxt tb tl pq) + 1))) (nI_add _ _) ?_
                    refine g_put C 0 rfl rfl 3 (by decide) (fun _ h => (List.mem_cons_of_mem _ (List.mem_append_right _ h))) 1 rfl rfl tyX4 tyX4_ok nmX4 rfl rfl rfl rfl (Nat.le_of_ble_eq_true rfl) (ws' := [(t0, .inr (3, [.int (nI tl), .long lf, .ref tz, .int (nI ((nxt tb tl pq) + 1)), .int (-1)])), (tz, .inl (ty.1, 300, .inl (zN tb)))]) rfl dX4_readPart_89 ?_
                    refine g_iload C dX4_readPart_92 0 rfl ?_
                    have hbt9 := bt_lt (deB ((hre tb tl (nxt tb tl pq)) = nI 40))
                    refine g_if_eqN C dX4_readPart_94 (tgt := 107) (by decide) (by omega) (fun h94 => ?_) (fun h94 => ?_)
                    · skip
                      have h40 := deB_0 h94
                      obtain ⟨o, ho1, ho2, ho3, ho4⟩ := opS_nI (fun y => h67 ⟨h40, y⟩)
                      rw [ho3]
                      refine g_iload_n C dX4_readPart_107 1 rfl rfl ?_
                      refine g_aload_n C dX4_readPart_108 3 rfl rfl ?_
                      refine g_iload_n C dX4_readPart_109 4 rfl rfl ?_
                      refine g_iconst C dX4_readPart_110 (v := (nI 1)) (by decide) ?_
                      refine g_iadd C dX4_readPart_111 (v := (nI (dv + 1))) (nI_add _ _) ?_
                      refine g_callUV C hX (hQ1 hk ((nxt tb tl pq) + 1) (by omega)) rfl gX4_readPart_X4_readPart 1 (by decide +kernel) rfl ⟨rfl, rfl⟩ ⟨by show _ ≤ _; simp only []; omega, by show _ ≤ _; simp only []; omega⟩ (rest := [.int (nI o)]) (q0 := 0) rfl rfl hA [0, 1] [] rfl rfl rfl (wr := []) rfl rfl rfl (Nat.le_of_ble_eq_true rfl) dX4_readPart_112 ⟨Nat.le_of_ble_eq_true rfl, Nat.le_of_ble_eq_true rfl⟩ rfl (g_kul (fun r112 w hr => ?_))
                      obtain ⟨pl112, er112, rfl, hP112⟩ := hr
                      refine g_ws (ws' := [(t0, .inr (3, [.int (nI tl), .long lf, .ref tz, .int pl112, .int er112])), (tz, .inl (ty.1, 300, .inl (zN tb)))]) [0, 1] rfl rfl rfl ?_
                      refine g_lconst C dX4_readPart_115 (v := 0) (by decide) ?_
                      refine g_callPS C ⟨g_X0_ok, trivial⟩ (t_X0_made l D ty o (by omega) r112 0) rfl gX4_readPart_X0_made 3 (by decide +kernel) rfl ⟨rfl, rfl⟩ ⟨Nat.le_of_ble_eq_true rfl, Nat.le_of_ble_eq_true rfl⟩ (rest := []) [] rfl (Nat.le_of_ble_eq_true rfl) dX4_readPart_116 ⟨Nat.le_of_ble_eq_true rfl, Nat.le_of_ble_eq_true rfl⟩ rfl (g_kl (fun r hr => ?_))
                      subst hr
                      refine hR _ _ _ _ _ _ dX4_readPart_119 ?_ (by omega) (by omega)
                      first
                      | exact ⟨_, _, rfl, by rw [pa_b h120 h29 h40 hk]; exact hP101⟩
                      | (refine ⟨_, _, rfl, ?_⟩
                         rw [pa_u h120 h29 h40 ho3 (by omega) hk]
                         rcases hP112 with ⟨f, q, z1, z2, z3, z4, z5⟩ | ⟨e, z1, z2, z3⟩
                         · rw [z1, z3]; exact Or.inl ⟨_, _, rfl, z2, rfl, z4, z5⟩
                         · rw [z1]; exact Or.inr ⟨_, rfl, z2, z3⟩)
                    · skip
                      have h40 := deB_1 h94
                      refine g_aload_n C dX4_readPart_97 3 rfl rfl ?_
                      refine g_iload_n C dX4_readPart_98 4 rfl rfl ?_
                      refine g_iconst C dX4_readPart_99 (v := (nI 1)) (by decide) ?_
                      refine g_iadd C dX4_readPart_100 (v := (nI (dv + 1))) (nI_add _ _) ?_
                      refine g_callUV C hX (hE1 hk ((nxt tb tl pq) + 1) (by omega)) rfl gX4_readPart_X4_readEnclosed 1 (by decide +kernel) rfl ⟨rfl, rfl⟩ ⟨by show _ ≤ _; simp only []; omega, by show _ ≤ _; simp only []; omega⟩ (rest := []) (q0 := 0) rfl rfl hA [0, 1] [] rfl rfl rfl (wr := []) rfl rfl rfl (Nat.le_of_ble_eq_true rfl) dX4_readPart_101 ⟨Nat.le_of_ble_eq_true rfl, Nat.le_of_ble_eq_true rfl⟩ rfl (g_kul (fun r101 w hr => ?_))
                      obtain ⟨pl101, er101, rfl, hP101⟩ := hr
                      refine g_ws (ws' := [(t0, .inr (3, [.int (nI tl), .long lf, .ref tz, .int pl101, .int er101])), (tz, .inl (ty.1, 300, .inl (zN tb)))]) [0, 1] rfl rfl rfl ?_
                      refine g_goto C dX4_readPart_104 (tgt := 119) (by decide) ?_
                      refine hR _ _ _ _ _ _ dX4_readPart_119 ?_ (by omega) (by omega)
                      first
                      | exact ⟨_, _, rfl, by rw [pa_b h120 h29 h40 hk]; exact hP101⟩
                      | (refine ⟨_, _, rfl, ?_⟩
                         rw [pa_u h120 h29 h40 ho3 (by omega) hk]
                         rcases hP112 with ⟨f, q, z1, z2, z3, z4, z5⟩ | ⟨e, z1, z2, z3⟩
                         · rw [z1, z3]; exact Or.inl ⟨_, _, rfl, z2, rfl, z4, z5⟩
                         · rw [z1]; exact Or.inr ⟨_, rfl, z2, z3⟩)
                  · skip
                    have L73 : ∀ (n9 : Nat) , 0 < n9 → ((¬ (hre tb tl (nxt tb tl pq)) = nI 40 ∧ opS (hre tb tl (nxt tb tl pq)) 4 0 = -1) ∨ k = 0) → gG (g_IU A D s) p l e ({ frames := 3 * k + 8, cells := 0, slots := 0, locals := 100 * k + 200 } : Room) s m args below meth c Q 5 0 0 73 [(0, .ref t0), (1, .int (nI dv))] [] [(t0, .inr (3, [.int (nI tl), .long lf, .ref tz, .int (nI (nxt tb tl pq)), .int (-1)])), (tz, .inl (ty.1, 300, .inl (zN tb)))] := by
                      intro n9
                      induction n9 with
                      | zero => intro  hn; exact absurd hn (Nat.not_lt_zero _)
                      | succ n9 ih73 =>
                        intro  hn73 h73
                        refine g_aload_n C dX4_readPart_73 0 rfl rfl ?_
                        refine g_aload_n C dX4_readPart_74 0 rfl rfl ?_
                        refine g_get C 0 rfl rfl 3 (by decide) (fun _ h => (List.mem_cons_of_mem _ (List.mem_append_right _ h))) 1 rfl rfl rfl dX4_readPart_75 ?_
                        refine g_callUV C ⟨g_X0_ok, trivial⟩ (t_X4_failAt l D ty t0 tz (nI tl) lf (nI (nxt tb tl pq)) (-1) (nI (nxt tb tl pq))) rfl gX4_readPart_X4_failAt 1 (by decide +kernel) rfl ⟨rfl, rfl⟩ ⟨Nat.le_of_ble_eq_true rfl, Nat.le_of_ble_eq_true rfl⟩ (rest := []) (q0 := 0) rfl rfl hA [0] [1] rfl rfl rfl (wr := [(tz, .inl (ty.1, 300, .inl (zN tb)))]) rfl rfl rfl (Nat.le_of_ble_eq_true rfl) dX4_readPart_78 ⟨Nat.le_of_ble_eq_true rfl, Nat.le_of_ble_eq_true rfl⟩ rfl (g_kul (fun r w hr => ?_))
                        obtain ⟨rfl, rfl⟩ := hr
                        refine g_ws (ws' := [(t0, .inr (3, [.int (nI tl), .long lf, .ref tz, .int (nI (nxt tb tl pq)), .int (nI (nxt tb tl pq))])), (tz, .inl (ty.1, 300, .inl (zN tb)))]) [1, 0] rfl rfl rfl ?_
                        refine hR _ _ _ _ _ _ dX4_readPart_81 ?_ (by omega) (by omega)
                        exact ⟨_, _, rfl, Or.inr ⟨_, pa_e h120 h29 h73, by omega, rfl⟩⟩
                    refine g_lv [3, 4] rfl ?_
                    exact L73 _  (Nat.lt_succ_self _) (by first | exact Or.inr (by omega) | exact Or.inl ⟨deB_0 h59, t_eq.mpr h64⟩)
              exact L67 _  (Nat.lt_succ_self _) (by first | exact fun z => z.1 (deB_1 h59) | exact fun z => h64 (t_eq.mp z.2))
            · skip
              refine g_iload_n C dX4_readPart_62 1 rfl rfl ?_
              refine g_iconst C dX4_readPart_63 (v := (-1)) (by decide) ?_
              refine g_icmp_eq C dX4_readPart_64 (tgt := 73) (by decide) (fun h64 => ?_) (fun h64 => ?_)
              · skip
                have L73 : ∀ (n9 : Nat) , 0 < n9 → ((¬ (hre tb tl (nxt tb tl pq)) = nI 40 ∧ opS (hre tb tl (nxt tb tl pq)) 4 0 = -1) ∨ k = 0) → gG (g_IU A D s) p l e ({ frames := 3 * k + 8, cells := 0, slots := 0, locals := 100 * k + 200 } : Room) s m args below meth c Q 5 0 0 73 [(0, .ref t0), (1, .int (nI dv))] [] [(t0, .inr (3, [.int (nI tl), .long lf, .ref tz, .int (nI (nxt tb tl pq)), .int (-1)])), (tz, .inl (ty.1, 300, .inl (zN tb)))] := by
                  intro n9
                  induction n9 with
                  | zero => intro  hn; exact absurd hn (Nat.not_lt_zero _)
                  | succ n9 ih73 =>
                    intro  hn73 h73
                    refine g_aload_n C dX4_readPart_73 0 rfl rfl ?_
                    refine g_aload_n C dX4_readPart_74 0 rfl rfl ?_
                    refine g_get C 0 rfl rfl 3 (by decide) (fun _ h => (List.mem_cons_of_mem _ (List.mem_append_right _ h))) 1 rfl rfl rfl dX4_readPart_75 ?_
                    refine g_callUV C ⟨g_X0_ok, trivial⟩ (t_X4_failAt l D ty t0 tz (nI tl) lf (nI (nxt tb tl pq)) (-1) (nI (nxt tb tl pq))) rfl gX4_readPart_X4_failAt 1 (by decide +kernel) rfl ⟨rfl, rfl⟩ ⟨Nat.le_of_ble_eq_true rfl, Nat.le_of_ble_eq_true rfl⟩ (rest := []) (q0 := 0) rfl rfl hA [0] [1] rfl rfl rfl (wr := [(tz, .inl (ty.1, 300, .inl (zN tb)))]) rfl rfl rfl (Nat.le_of_ble_eq_true rfl) dX4_readPart_78 ⟨Nat.le_of_ble_eq_true rfl, Nat.le_of_ble_eq_true rfl⟩ rfl (g_kul (fun r w hr => ?_))
                    obtain ⟨rfl, rfl⟩ := hr
                    refine g_ws (ws' := [(t0, .inr (3, [.int (nI tl), .long lf, .ref tz, .int (nI (nxt tb tl pq)), .int (nI (nxt tb tl pq))])), (tz, .inl (ty.1, 300, .inl (zN tb)))]) [1, 0] rfl rfl rfl ?_
                    refine hR _ _ _ _ _ _ dX4_readPart_81 ?_ (by omega) (by omega)
                    exact ⟨_, _, rfl, Or.inr ⟨_, pa_e h120 h29 h73, by omega, rfl⟩⟩
                refine g_lv [3, 4] rfl ?_
                exact L73 _  (Nat.lt_succ_self _) (by first | exact Or.inr (by omega) | exact Or.inl ⟨deB_0 h59, t_eq.mpr h64⟩)
              · skip
                have L67 : ∀ (n9 : Nat) , 0 < n9 → (¬ (¬ (hre tb tl (nxt tb tl pq)) = nI 40 ∧ opS (hre tb tl (nxt tb tl pq)) 4 0 = -1)) → gG (g_IU A D s) p l e ({ frames := 3 * k + 8, cells := 0, slots := 0, locals := 100 * k + 200 } : Room) s m args below meth c Q 5 0 0 67 [(4, .int (nI ((deB ((hre tb tl (nxt tb tl pq)) = nI 40)).toNat))), (3, .int (opS (hre tb tl (nxt tb tl pq)) 4 0)), (2, .int (hre tb tl (nxt tb tl pq))), (0, .ref t0), (1, .int (nI dv))] [] [(t0, .inr (3, [.int (nI tl), .long lf, .ref tz, .int (nI (nxt tb tl pq)), .int (-1)])), (tz, .inl (ty.1, 300, .inl (zN tb)))] := by
                  intro n9
                  induction n9 with
                  | zero => intro  hn; exact absurd hn (Nat.not_lt_zero _)
                  | succ n9 ih67 =>
                    intro  hn67 h67
                    refine g_iload_n C dX4_readPart_67 4 rfl rfl ?_
                    refine g_bipush C dX4_readPart_68 (v := (nI 20)) (by decide) ?_
                    refine g_icmp_ltN C dX4_readPart_70 (tgt := 82) (by decide) (by omega) (by omega) (fun h70 => ?_) (fun h70 => ?_)
                    · skip
                      have hk : 0 < k := by omega
                      have hlt : nxt tb tl pq < tl := hre_in (fun z => by by_cases q40 : (hre tb tl (nxt tb tl pq)) = nI 40; rw [z] at q40; exact absurd q40 (by decide); obtain ⟨o, o1, o2, o3, o4⟩ := opS_nI (fun y => h67 ⟨q40, y⟩); rw [z] at o4; exact nI_m1 (by have := sgn_lt o; omega) o4.symm)
                      refine g_aload_n C dX4_readPart_82 3 rfl rfl ?_
                      refine g_dup C dX4_readPart_83 rfl ?_
                      refine g_get C 0 rfl rfl 3 (by decide) (fun _ h => (List.mem_cons_of_mem _ (List.mem_append_right _ h))) 1 rfl rfl rfl dX4_readPart_84 ?_
                      refine g_iconst C dX4_readPart_87 (v := (nI 1)) (by decide) ?_
                      refine g_iadd C dX4_readPart_88 (v := (nI ((nxt tb tl pq) + 1))) (nI_add _ _) ?_
                      refine g_put C 0 rfl rfl 3 (by decide) (fun _ h => (List.mem_cons_of_mem _ (List.mem_append_right _ h))) 1 rfl rfl tyX4 tyX4_ok nmX4 rfl rfl rfl rfl (Nat.le_of_ble_eq_true rfl) (ws' := [(t0, .inr (3, [.int (nI tl), .long lf, .ref tz, .int (nI ((nxt tb tl pq) + 1)), .int (-1)])), (tz, .inl (ty.1, 300, .inl (zN tb)))]) rfl dX4_readPart_89 ?_
                      refine g_iload C dX4_readPart_92 0 rfl ?_
                      have hbt9 := bt_lt (deB ((hre tb tl (nxt tb tl pq)) = nI 40))
                      refine g_if_eqN C dX4_readPart_94 (tgt := 107) (by decide) (by omega) (fun h94 => ?_) (fun h94 => ?_)
                      · skip
                        have h40 := deB_0 h94
                        obtain ⟨o, ho1, ho2, ho3, ho4⟩ := opS_nI (fun y => h67 ⟨h40, y⟩)
                        rw [ho3]
                        refine g_iload_n C dX4_readPart_107 1 rfl rfl ?_
                        refine g_aload_n C dX4_readPart_108 3 rfl rfl ?_
                        refine g_iload_n C dX4_readPart_109 4 rfl rfl ?_
                        refine g_iconst C dX4_readPart_110 (v := (nI 1)) (by decide) ?_
                        refine g_iadd C dX4_readPart_111 (v := (nI (dv + 1))) (nI_add _ _) ?_
                        refine g_callUV C hX (hQ1 hk ((nxt tb tl pq) + 1) (by omega)) rfl gX4_readPart_X4_readPart 1 (by decide +kernel) rfl ⟨rfl, rfl⟩ ⟨by show _ ≤ _; simp only []; omega, by show _ ≤ _; simp only []; omega⟩ (rest := [.int (nI o)]) (q0 := 0) rfl rfl hA [0, 1] [] rfl rfl rfl (wr := []) rfl rfl rfl (Nat.le_of_ble_eq_true rfl) dX4_readPart_112 ⟨Nat.le_of_ble_eq_true rfl, Nat.le_of_ble_eq_true rfl⟩ rfl (g_kul (fun r112 w hr => ?_))
                        obtain ⟨pl112, er112, rfl, hP112⟩ := hr
                        refine g_ws (ws' := [(t0, .inr (3, [.int (nI tl), .long lf, .ref tz, .int pl112, .int er112])), (tz, .inl (ty.1, 300, .inl (zN tb)))]) [0, 1] rfl rfl rfl ?_
                        refine g_lconst C dX4_readPart_115 (v := 0) (by decide) ?_
                        refine g_callPS C ⟨g_X0_ok, trivial⟩ (t_X0_made l D ty o (by omega) r112 0) rfl gX4_readPart_X0_made 3 (by decide +kernel) rfl ⟨rfl, rfl⟩ ⟨Nat.le_of_ble_eq_true rfl, Nat.le_of_ble_eq_true rfl⟩ (rest := []) [] rfl (Nat.le_of_ble_eq_true rfl) dX4_readPart_116 ⟨Nat.le_of_ble_eq_true rfl, Nat.le_of_ble_eq_true rfl⟩ rfl (g_kl (fun r hr => ?_))
                        subst hr
                        refine hR _ _ _ _ _ _ dX4_readPart_119 ?_ (by omega) (by omega)
                        first
                        | exact ⟨_, _, rfl, by rw [pa_b h120 h29 h40 hk]; exact hP101⟩
                        | (refine ⟨_, _, rfl, ?_⟩
                           rw [pa_u h120 h29 h40 ho3 (by omega) hk]
                           rcases hP112 with ⟨f, q, z1, z2, z3, z4, z5⟩ | ⟨e, z1, z2, z3⟩
                           · rw [z1, z3]; exact Or.inl ⟨_, _, rfl, z2, rfl, z4, z5⟩
                           · rw [z1]; exact Or.inr ⟨_, rfl, z2, z3⟩)
                      · skip
                        have h40 := deB_1 h94
                        refine g_aload_n C dX4_readPart_97 3 rfl rfl ?_
                        refine g_iload_n C dX4_readPart_98 4 rfl rfl ?_
                        refine g_iconst C dX4_readPart_99 (v := (nI 1)) (by decide) ?_
                        refine g_iadd C dX4_readPart_100 (v := (nI (dv + 1))) (nI_add _ _) ?_
                        refine g_callUV C hX (hE1 hk ((nxt tb tl pq) + 1) (by omega)) rfl gX4_readPart_X4_readEnclosed 1 (by decide +kernel) rfl ⟨rfl, rfl⟩ ⟨by show _ ≤ _; simp only []; omega, by show _ ≤ _; simp only []; omega⟩ (rest := []) (q0 := 0) rfl rfl hA [0, 1] [] rfl rfl rfl (wr := []) rfl rfl rfl (Nat.le_of_ble_eq_true rfl) dX4_readPart_101 ⟨Nat.le_of_ble_eq_true rfl, Nat.le_of_ble_eq_true rfl⟩ rfl (g_kul (fun r101 w hr => ?_))
                        obtain ⟨pl101, er101, rfl, hP101⟩ := hr
                        refine g_ws (ws' := [(t0, .inr (3, [.int (nI tl), .long lf, .ref tz, .int pl101, .int er101])), (tz, .inl (ty.1, 300, .inl (zN tb)))]) [0, 1] rfl rfl rfl ?_
                        refine g_goto C dX4_readPart_104 (tgt := 119) (by decide) ?_
                        refine hR _ _ _ _ _ _ dX4_readPart_119 ?_ (by omega) (by omega)
                        first
                        | exact ⟨_, _, rfl, by rw [pa_b h120 h29 h40 hk]; exact hP101⟩
                        | (refine ⟨_, _, rfl, ?_⟩
                           rw [pa_u h120 h29 h40 ho3 (by omega) hk]
                           rcases hP112 with ⟨f, q, z1, z2, z3, z4, z5⟩ | ⟨e, z1, z2, z3⟩
                           · rw [z1, z3]; exact Or.inl ⟨_, _, rfl, z2, rfl, z4, z5⟩
                           · rw [z1]; exact Or.inr ⟨_, rfl, z2, z3⟩)
                    · skip
                      have L73 : ∀ (n9 : Nat) , 0 < n9 → ((¬ (hre tb tl (nxt tb tl pq)) = nI 40 ∧ opS (hre tb tl (nxt tb tl pq)) 4 0 = -1) ∨ k = 0) → gG (g_IU A D s) p l e ({ frames := 3 * k + 8, cells := 0, slots := 0, locals := 100 * k + 200 } : Room) s m args below meth c Q 5 0 0 73 [(0, .ref t0), (1, .int (nI dv))] [] [(t0, .inr (3, [.int (nI tl), .long lf, .ref tz, .int (nI (nxt tb tl pq)), .int (-1)])), (tz, .inl (ty.1, 300, .inl (zN tb)))] := by
                        intro n9
                        induction n9 with
                        | zero => intro  hn; exact absurd hn (Nat.not_lt_zero _)
                        | succ n9 ih73 =>
                          intro  hn73 h73
                          refine g_aload_n C dX4_readPart_73 0 rfl rfl ?_
                          refine g_aload_n C dX4_readPart_74 0 rfl rfl ?_
                          refine g_get C 0 rfl rfl 3 (by decide) (fun _ h => (List.mem_cons_of_mem _ (List.mem_append_right _ h))) 1 rfl rfl rfl dX4_readPart_75 ?_
                          refine g_callUV C ⟨g_X0_ok, trivial⟩ (t_X4_failAt l D ty t0 tz (nI tl) lf (nI (nxt tb tl pq)) (-1) (nI (nxt tb tl pq))) rfl gX4_readPart_X4_failAt 1 (by decide +kernel) rfl ⟨rfl, rfl⟩ ⟨Nat.le_of_ble_eq_true rfl, Nat.le_of_ble_eq_true rfl⟩ (rest := []) (q0 := 0) rfl rfl hA [0] [1] rfl rfl rfl (wr := [(tz, .inl (ty.1, 300, .inl (zN tb)))]) rfl rfl rfl (Nat.le_of_ble_eq_true rfl) dX4_readPart_78 ⟨Nat.le_of_ble_eq_true rfl, Nat.le_of_ble_eq_true rfl⟩ rfl (g_kul (fun r w hr => ?_))
                          obtain ⟨rfl, rfl⟩ := hr
                          refine g_ws (ws' := [(t0, .inr (3, [.int (nI tl), .long lf, .ref tz, .int (nI (nxt tb tl pq)), .int (nI (nxt tb tl pq))])), (tz, .inl (ty.1, 300, .inl (zN tb)))]) [1, 0] rfl rfl rfl ?_
                          refine hR _ _ _ _ _ _ dX4_readPart_81 ?_ (by omega) (by omega)
                          exact ⟨_, _, rfl, Or.inr ⟨_, pa_e h120 h29 h73, by omega, rfl⟩⟩
                      refine g_lv [3, 4] rfl ?_
                      exact L73 _  (Nat.lt_succ_self _) (by first | exact Or.inr (by omega) | exact Or.inl ⟨deB_0 h59, t_eq.mpr h64⟩)
                exact L67 _  (Nat.lt_succ_self _) (by first | exact fun z => z.1 (deB_1 h59) | exact fun z => h64 (t_eq.mp z.2))
        exact L55 _  (Nat.lt_succ_self _) 
      · skip
        have hd40 : deB ((hre tb tl (nxt tb tl pq)) = nI 40) = true := deB_t (t_eq.mpr h47)
        refine g_iconst C dX4_readPart_50 (v := (nI ((deB ((hre tb tl (nxt tb tl pq)) = nI 40)).toNat))) (by rw [hd40]; rfl) ?_
        refine g_goto C dX4_readPart_51 (tgt := 55) (by decide) ?_
        have L55 : ∀ (n9 : Nat) , 0 < n9 → gG (g_IU A D s) p l e ({ frames := 3 * k + 8, cells := 0, slots := 0, locals := 100 * k + 200 } : Room) s m args below meth c Q 5 0 0 55 [(3, .int (opS (hre tb tl (nxt tb tl pq)) 4 0)), (2, .int (hre tb tl (nxt tb tl pq))), (0, .ref t0), (1, .int (nI dv))] [.int (nI ((deB ((hre tb tl (nxt tb tl pq)) = nI 40)).toNat))] [(t0, .inr (3, [.int (nI tl), .long lf, .ref tz, .int (nI (nxt tb tl pq)), .int (-1)])), (tz, .inl (ty.1, 300, .inl (zN tb)))] := by
          intro n9
          induction n9 with
          | zero => intro  hn; exact absurd hn (Nat.not_lt_zero _)
          | succ n9 ih55 =>
            intro  hn55 
            refine g_istore C dX4_readPart_55 (by decide) (lv' := [(4, .int (nI ((deB ((hre tb tl (nxt tb tl pq)) = nI 40)).toNat))), (3, .int (opS (hre tb tl (nxt tb tl pq)) 4 0)), (2, .int (hre tb tl (nxt tb tl pq))), (0, .ref t0), (1, .int (nI dv))]) rfl ?_
            have hbt := bt_lt (deB ((hre tb tl (nxt tb tl pq)) = nI 40))
            refine g_iload C dX4_readPart_57 0 rfl ?_
            refine g_if_neN C dX4_readPart_59 (tgt := 67) (by decide) (by omega) (fun h59 => ?_) (fun h59 => ?_)
            · skip
              have L67 : ∀ (n9 : Nat) , 0 < n9 → (¬ (¬ (hre tb tl (nxt tb tl pq)) = nI 40 ∧ opS (hre tb tl (nxt tb tl pq)) 4 0 = -1)) → gG (g_IU A D s) p l e ({ frames := 3 * k + 8, cells := 0, slots := 0, locals := 100 * k + 200 } : Room) s m args below meth c Q 5 0 0 67 [(4, .int (nI ((deB ((hre tb tl (nxt tb tl pq)) = nI 40)).toNat))), (3, .int (opS (hre tb tl (nxt tb tl pq)) 4 0)), (2, .int (hre tb tl (nxt tb tl pq))), (0, .ref t0), (1, .int (nI dv))] [] [(t0, .inr (3, [.int (nI tl), .long lf, .ref tz, .int (nI (nxt tb tl pq)), .int (-1)])), (tz, .inl (ty.1, 300, .inl (zN tb)))] := by
                intro n9
                induction n9 with
                | zero => intro  hn; exact absurd hn (Nat.not_lt_zero _)
                | succ n9 ih67 =>
                  intro  hn67 h67
                  refine g_iload_n C dX4_readPart_67 4 rfl rfl ?_
                  refine g_bipush C dX4_readPart_68 (v := (nI 20)) (by decide) ?_
                  refine g_icmp_ltN C dX4_readPart_70 (tgt := 82) (by decide) (by omega) (by omega) (fun h70 => ?_) (fun h70 => ?_)
                  · skip
                    have hk : 0 < k := by omega
                    have hlt : nxt tb tl pq < tl := hre_in (fun z => by by_cases q40 : (hre tb tl (nxt tb tl pq)) = nI 40; rw [z] at q40; exact absurd q40 (by decide); obtain ⟨o, o1, o2, o3, o4⟩ := opS_nI (fun y => h67 ⟨q40, y⟩); rw [z] at o4; exact nI_m1 (by have := sgn_lt o; omega) o4.symm)
                    refine g_aload_n C dX4_readPart_82 3 rfl rfl ?_
                    refine g_dup C dX4_readPart_83 rfl ?_
                    refine g_get C 0 rfl rfl 3 (by decide) (fun _ h => (List.mem_cons_of_mem _ (List.mem_append_right _ h))) 1 rfl rfl rfl dX4_readPart_84 ?_
                    refine g_iconst C dX4_readPart_87 (v := (nI 1)) (by decide) ?_
                    refine g_iadd C dX4_readPart_88 (v := (nI ((nxt tb tl pq) + 1))) (nI_add _ _) ?_
                    refine g_put C 0 rfl rfl 3 (by decide) (fun _ h => (List.mem_cons_of_mem _ (List.mem_append_right _ h))) 1 rfl rfl tyX4 tyX4_ok nmX4 rfl rfl rfl rfl (Nat.le_of_ble_eq_true rfl) (ws' := [(t0, .inr (3, [.int (nI tl), .long lf, .ref tz, .int (nI ((nxt tb tl pq) + 1)), .int (-1)])), (tz, .inl (ty.1, 300, .inl (zN tb)))]) rfl dX4_readPart_89 ?_
                    refine g_iload C dX4_readPart_92 0 rfl ?_
                    have hbt9 := bt_lt (deB ((hre tb tl (nxt tb tl pq)) = nI 40))
                    refine g_if_eqN C dX4_readPart_94 (tgt := 107) (by decide) (by omega) (fun h94 => ?_) (fun h94 => ?_)
                    · skip
                      have h40 := deB_0 h94
                      obtain ⟨o, ho1, ho2, ho3, ho4⟩ := opS_nI (fun y => h67 ⟨h40, y⟩)
                      rw [ho3]
                      refine g_iload_n C dX4_readPart_107 1 rfl rfl ?_
                      refine g_aload_n C dX4_readPart_108 3 rfl rfl ?_
                      refine g_iload_n C dX4_readPart_109 4 rfl rfl ?_
                      refine g_iconst C dX4_readPart_110 (v := (nI 1)) (by decide) ?_
                      refine g_iadd C dX4_readPart_111 (v := (nI (dv + 1))) (nI_add _ _) ?_
                      refine g_callUV C hX (hQ1 hk ((nxt tb tl pq) + 1) (by omega)) rfl gX4_readPart_X4_readPart 1 (by decide +kernel) rfl ⟨rfl, rfl⟩ ⟨by show _ ≤ _; simp only []; omega, by show _ ≤ _; simp only []; omega⟩ (rest := [.int (nI o)]) (q0 := 0) rfl rfl hA [0, 1] [] rfl rfl rfl (wr := []) rfl rfl rfl (Nat.le_of_ble_eq_true rfl) dX4_readPart_112 ⟨Nat.le_of_ble_eq_true rfl, Nat.le_of_ble_eq_true rfl⟩ rfl (g_kul (fun r112 w hr => ?_))
                      obtain ⟨pl112, er112, rfl, hP112⟩ := hr
                      refine g_ws (ws' := [(t0, .inr (3, [.int (nI tl), .long lf, .ref tz, .int pl112, .int er112])), (tz, .inl (ty.1, 300, .inl (zN tb)))]) [0, 1] rfl rfl rfl ?_
                      refine g_lconst C dX4_readPart_115 (v := 0) (by decide) ?_
                      refine g_callPS C ⟨g_X0_ok, trivial⟩ (t_X0_made l D ty o (by omega) r112 0) rfl gX4_readPart_X0_made 3 (by decide +kernel) rfl ⟨rfl, rfl⟩ ⟨Nat.le_of_ble_eq_true rfl, Nat.le_of_ble_eq_true rfl⟩ (rest := []) [] rfl (Nat.le_of_ble_eq_true rfl) dX4_readPart_116 ⟨Nat.le_of_ble_eq_true rfl, Nat.le_of_ble_eq_true rfl⟩ rfl (g_kl (fun r hr => ?_))
                      subst hr
                      refine hR _ _ _ _ _ _ dX4_readPart_119 ?_ (by omega) (by omega)
                      first
                      | exact ⟨_, _, rfl, by rw [pa_b h120 h29 h40 hk]; exact hP101⟩
                      | (refine ⟨_, _, rfl, ?_⟩
                         rw [pa_u h120 h29 h40 ho3 (by omega) hk]
                         rcases hP112 with ⟨f, q, z1, z2, z3, z4, z5⟩ | ⟨e, z1, z2, z3⟩
                         · rw [z1, z3]; exact Or.inl ⟨_, _, rfl, z2, rfl, z4, z5⟩
                         · rw [z1]; exact Or.inr ⟨_, rfl, z2, z3⟩)
                    · skip
                      have h40 := deB_1 h94
                      refine g_aload_n C dX4_readPart_97 3 rfl rfl ?_
                      refine g_iload_n C dX4_readPart_98 4 rfl rfl ?_
                      refine g_iconst C dX4_readPart_99 (v := (nI 1)) (by decide) ?_
                      refine g_iadd C dX4_readPart_100 (v := (nI (dv + 1))) (nI_add _ _) ?_
                      refine g_callUV C hX (hE1 hk ((nxt tb tl pq) + 1) (by omega)) rfl gX4_readPart_X4_readEnclosed 1 (by decide +kernel) rfl ⟨rfl, rfl⟩ ⟨by show _ ≤ _; simp only []; omega, by show _ ≤ _; simp only []; omega⟩ (rest := []) (q0 := 0) rfl rfl hA [0, 1] [] rfl rfl rfl (wr := []) rfl rfl rfl (Nat.le_of_ble_eq_true rfl) dX4_readPart_101 ⟨Nat.le_of_ble_eq_true rfl, Nat.le_of_ble_eq_true rfl⟩ rfl (g_kul (fun r101 w hr => ?_))
                      obtain ⟨pl101, er101, rfl, hP101⟩ := hr
                      refine g_ws (ws' := [(t0, .inr (3, [.int (nI tl), .long lf, .ref tz, .int pl101, .int er101])), (tz, .inl (ty.1, 300, .inl (zN tb)))]) [0, 1] rfl rfl rfl ?_
                      refine g_goto C dX4_readPart_104 (tgt := 119) (by decide) ?_
                      refine hR _ _ _ _ _ _ dX4_readPart_119 ?_ (by omega) (by omega)
                      first
                      | exact ⟨_, _, rfl, by rw [pa_b h120 h29 h40 hk]; exact hP101⟩
                      | (refine ⟨_, _, rfl, ?_⟩
                         rw [pa_u h120 h29 h40 ho3 (by omega) hk]
                         rcases hP112 with ⟨f, q, z1, z2, z3, z4, z5⟩ | ⟨e, z1, z2, z3⟩
                         · rw [z1, z3]; exact Or.inl ⟨_, _, rfl, z2, rfl, z4, z5⟩
                         · rw [z1]; exact Or.inr ⟨_, rfl, z2, z3⟩)
                  · skip
                    have L73 : ∀ (n9 : Nat) , 0 < n9 → ((¬ (hre tb tl (nxt tb tl pq)) = nI 40 ∧ opS (hre tb tl (nxt tb tl pq)) 4 0 = -1) ∨ k = 0) → gG (g_IU A D s) p l e ({ frames := 3 * k + 8, cells := 0, slots := 0, locals := 100 * k + 200 } : Room) s m args below meth c Q 5 0 0 73 [(0, .ref t0), (1, .int (nI dv))] [] [(t0, .inr (3, [.int (nI tl), .long lf, .ref tz, .int (nI (nxt tb tl pq)), .int (-1)])), (tz, .inl (ty.1, 300, .inl (zN tb)))] := by
                      intro n9
                      induction n9 with
                      | zero => intro  hn; exact absurd hn (Nat.not_lt_zero _)
                      | succ n9 ih73 =>
                        intro  hn73 h73
                        refine g_aload_n C dX4_readPart_73 0 rfl rfl ?_
                        refine g_aload_n C dX4_readPart_74 0 rfl rfl ?_
                        refine g_get C 0 rfl rfl 3 (by decide) (fun _ h => (List.mem_cons_of_mem _ (List.mem_append_right _ h))) 1 rfl rfl rfl dX4_readPart_75 ?_
                        refine g_callUV C ⟨g_X0_ok, trivial⟩ (t_X4_failAt l D ty t0 tz (nI tl) lf (nI (nxt tb tl pq)) (-1) (nI (nxt tb tl pq))) rfl gX4_readPart_X4_failAt 1 (by decide +kernel) rfl ⟨rfl, rfl⟩ ⟨Nat.le_of_ble_eq_true rfl, Nat.le_of_ble_eq_true rfl⟩ (rest := []) (q0 := 0) rfl rfl hA [0] [1] rfl rfl rfl (wr := [(tz, .inl (ty.1, 300, .inl (zN tb)))]) rfl rfl rfl (Nat.le_of_ble_eq_true rfl) dX4_readPart_78 ⟨Nat.le_of_ble_eq_true rfl, Nat.le_of_ble_eq_true rfl⟩ rfl (g_kul (fun r w hr => ?_))
                        obtain ⟨rfl, rfl⟩ := hr
                        refine g_ws (ws' := [(t0, .inr (3, [.int (nI tl), .long lf, .ref tz, .int (nI (nxt tb tl pq)), .int (nI (nxt tb tl pq))])), (tz, .inl (ty.1, 300, .inl (zN tb)))]) [1, 0] rfl rfl rfl ?_
                        refine hR _ _ _ _ _ _ dX4_readPart_81 ?_ (by omega) (by omega)
                        exact ⟨_, _, rfl, Or.inr ⟨_, pa_e h120 h29 h73, by omega, rfl⟩⟩
                    refine g_lv [3, 4] rfl ?_
                    exact L73 _  (Nat.lt_succ_self _) (by first | exact Or.inr (by omega) | exact Or.inl ⟨deB_0 h59, t_eq.mpr h64⟩)
              exact L67 _  (Nat.lt_succ_self _) (by first | exact fun z => z.1 (deB_1 h59) | exact fun z => h64 (t_eq.mp z.2))
            · skip
              refine g_iload_n C dX4_readPart_62 1 rfl rfl ?_
              refine g_iconst C dX4_readPart_63 (v := (-1)) (by decide) ?_
              refine g_icmp_eq C dX4_readPart_64 (tgt := 73) (by decide) (fun h64 => ?_) (fun h64 => ?_)
              · skip
                have L73 : ∀ (n9 : Nat) , 0 < n9 → ((¬ (hre tb tl (nxt tb tl pq)) = nI 40 ∧ opS (hre tb tl (nxt tb tl pq)) 4 0 = -1) ∨ k = 0) → gG (g_IU A D s) p l e ({ frames := 3 * k + 8, cells := 0, slots := 0, locals := 100 * k + 200 } : Room) s m args below meth c Q 5 0 0 73 [(0, .ref t0), (1, .int (nI dv))] [] [(t0, .inr (3, [.int (nI tl), .long lf, .ref tz, .int (nI (nxt tb tl pq)), .int (-1)])), (tz, .inl (ty.1, 300, .inl (zN tb)))] := by
                  intro n9
                  induction n9 with
                  | zero => intro  hn; exact absurd hn (Nat.not_lt_zero _)
                  | succ n9 ih73 =>
                    intro  hn73 h73
                    refine g_aload_n C dX4_readPart_73 0 rfl rfl ?_
                    refine g_aload_n C dX4_readPart_74 0 rfl rfl ?_
                    refine g_get C 0 rfl rfl 3 (by decide) (fun _ h => (List.mem_cons_of_mem _ (List.mem_append_right _ h))) 1 rfl rfl rfl dX4_readPart_75 ?_
                    refine g_callUV C ⟨g_X0_ok, trivial⟩ (t_X4_failAt l D ty t0 tz (nI tl) lf (nI (nxt tb tl pq)) (-1) (nI (nxt tb tl pq))) rfl gX4_readPart_X4_failAt 1 (by decide +kernel) rfl ⟨rfl, rfl⟩ ⟨Nat.le_of_ble_eq_true rfl, Nat.le_of_ble_eq_true rfl⟩ (rest := []) (q0 := 0) rfl rfl hA [0] [1] rfl rfl rfl (wr := [(tz, .inl (ty.1, 300, .inl (zN tb)))]) rfl rfl rfl (Nat.le_of_ble_eq_true rfl) dX4_readPart_78 ⟨Nat.le_of_ble_eq_true rfl, Nat.le_of_ble_eq_true rfl⟩ rfl (g_kul (fun r w hr => ?_))
                    obtain ⟨rfl, rfl⟩ := hr
                    refine g_ws (ws' := [(t0, .inr (3, [.int (nI tl), .long lf, .ref tz, .int (nI (nxt tb tl pq)), .int (nI (nxt tb tl pq))])), (tz, .inl (ty.1, 300, .inl (zN tb)))]) [1, 0] rfl rfl rfl ?_
                    refine hR _ _ _ _ _ _ dX4_readPart_81 ?_ (by omega) (by omega)
                    exact ⟨_, _, rfl, Or.inr ⟨_, pa_e h120 h29 h73, by omega, rfl⟩⟩
                refine g_lv [3, 4] rfl ?_
                exact L73 _  (Nat.lt_succ_self _) (by first | exact Or.inr (by omega) | exact Or.inl ⟨deB_0 h59, t_eq.mpr h64⟩)
              · skip
                have L67 : ∀ (n9 : Nat) , 0 < n9 → (¬ (¬ (hre tb tl (nxt tb tl pq)) = nI 40 ∧ opS (hre tb tl (nxt tb tl pq)) 4 0 = -1)) → gG (g_IU A D s) p l e ({ frames := 3 * k + 8, cells := 0, slots := 0, locals := 100 * k + 200 } : Room) s m args below meth c Q 5 0 0 67 [(4, .int (nI ((deB ((hre tb tl (nxt tb tl pq)) = nI 40)).toNat))), (3, .int (opS (hre tb tl (nxt tb tl pq)) 4 0)), (2, .int (hre tb tl (nxt tb tl pq))), (0, .ref t0), (1, .int (nI dv))] [] [(t0, .inr (3, [.int (nI tl), .long lf, .ref tz, .int (nI (nxt tb tl pq)), .int (-1)])), (tz, .inl (ty.1, 300, .inl (zN tb)))] := by
                  intro n9
                  induction n9 with
                  | zero => intro  hn; exact absurd hn (Nat.not_lt_zero _)
                  | succ n9 ih67 =>
                    intro  hn67 h67
                    refine g_iload_n C dX4_readPart_67 4 rfl rfl ?_
                    refine g_bipush C dX4_readPart_68 (v := (nI 20)) (by decide) ?_
                    refine g_icmp_ltN C dX4_readPart_70 (tgt := 82) (by decide) (by omega) (by omega) (fun h70 => ?_) (fun h70 => ?_)
                    · skip
                      have hk : 0 < k := by omega
                      have hlt : nxt tb tl pq < tl := hre_in (fun z => by by_cases q40 : (hre tb tl (nxt tb tl pq)) = nI 40; rw [z] at q40; exact absurd q40 (by decide); obtain ⟨o, o1, o2, o3, o4⟩ := opS_nI (fun y => h67 ⟨q40, y⟩); rw [z] at o4; exact nI_m1 (by have := sgn_lt o; omega) o4.symm)
                      refine g_aload_n C dX4_readPart_82 3 rfl rfl ?_
                      refine g_dup C dX4_readPart_83 rfl ?_
                      refine g_get C 0 rfl rfl 3 (by decide) (fun _ h => (List.mem_cons_of_mem _ (List.mem_append_right _ h))) 1 rfl rfl rfl dX4_readPart_84 ?_
                      refine g_iconst C dX4_readPart_87 (v := (nI 1)) (by decide) ?_
                      refine g_iadd C dX4_readPart_88 (v := (nI ((nxt tb tl pq) + 1))) (nI_add _ _) ?_
                      refine g_put C 0 rfl rfl 3 (by decide) (fun _ h => (List.mem_cons_of_mem _ (List.mem_append_right _ h))) 1 rfl rfl tyX4 tyX4_ok nmX4 rfl rfl rfl rfl (Nat.le_of_ble_eq_true rfl) (ws' := [(t0, .inr (3, [.int (nI tl), .long lf, .ref tz, .int (nI ((nxt tb tl pq) + 1)), .int (-1)])), (tz, .inl (ty.1, 300, .inl (zN tb)))]) rfl dX4_readPart_89 ?_
                      refine g_iload C dX4_readPart_92 0 rfl ?_
                      have hbt9 := bt_lt (deB ((hre tb tl (nxt tb tl pq)) = nI 40))
                      refine g_if_eqN C dX4_readPart_94 (tgt := 107) (by decide) (by omega) (fun h94 => ?_) (fun h94 => ?_)
                      · skip
                        have h40 := deB_0 h94
                        obtain ⟨o, ho1, ho2, ho3, ho4⟩ := opS_nI (fun y => h67 ⟨h40, y⟩)
                        rw [ho3]
                        refine g_iload_n C dX4_readPart_107 1 rfl rfl ?_
                        refine g_aload_n C dX4_readPart_108 3 rfl rfl ?_
                        refine g_iload_n C dX4_readPart_109 4 rfl rfl ?_
                        refine g_iconst C dX4_readPart_110 (v := (nI 1)) (by decide) ?_
                        refine g_iadd C dX4_readPart_111 (v := (nI (dv + 1))) (nI_add _ _) ?_
                        refine g_callUV C hX (hQ1 hk ((nxt tb tl pq) + 1) (by omega)) rfl gX4_readPart_X4_readPart 1 (by decide +kernel) rfl ⟨rfl, rfl⟩ ⟨by show _ ≤ _; simp only []; omega, by show _ ≤ _; simp only []; omega⟩ (rest := [.int (nI o)]) (q0 := 0) rfl rfl hA [0, 1] [] rfl rfl rfl (wr := []) rfl rfl rfl (Nat.le_of_ble_eq_true rfl) dX4_readPart_112 ⟨Nat.le_of_ble_eq_true rfl, Nat.le_of_ble_eq_true rfl⟩ rfl (g_kul (fun r112 w hr => ?_))
                        obtain ⟨pl112, er112, rfl, hP112⟩ := hr
                        refine g_ws (ws' := [(t0, .inr (3, [.int (nI tl), .long lf, .ref tz, .int pl112, .int er112])), (tz, .inl (ty.1, 300, .inl (zN tb)))]) [0, 1] rfl rfl rfl ?_
                        refine g_lconst C dX4_readPart_115 (v := 0) (by decide) ?_
                        refine g_callPS C ⟨g_X0_ok, trivial⟩ (t_X0_made l D ty o (by omega) r112 0) rfl gX4_readPart_X0_made 3 (by decide +kernel) rfl ⟨rfl, rfl⟩ ⟨Nat.le_of_ble_eq_true rfl, Nat.le_of_ble_eq_true rfl⟩ (rest := []) [] rfl (Nat.le_of_ble_eq_true rfl) dX4_readPart_116 ⟨Nat.le_of_ble_eq_true rfl, Nat.le_of_ble_eq_true rfl⟩ rfl (g_kl (fun r hr => ?_))
                        subst hr
                        refine hR _ _ _ _ _ _ dX4_readPart_119 ?_ (by omega) (by omega)
                        first
                        | exact ⟨_, _, rfl, by rw [pa_b h120 h29 h40 hk]; exact hP101⟩
                        | (refine ⟨_, _, rfl, ?_⟩
                           rw [pa_u h120 h29 h40 ho3 (by omega) hk]
                           rcases hP112 with ⟨f, q, z1, z2, z3, z4, z5⟩ | ⟨e, z1, z2, z3⟩
                           · rw [z1, z3]; exact Or.inl ⟨_, _, rfl, z2, rfl, z4, z5⟩
                           · rw [z1]; exact Or.inr ⟨_, rfl, z2, z3⟩)
                      · skip
                        have h40 := deB_1 h94
                        refine g_aload_n C dX4_readPart_97 3 rfl rfl ?_
                        refine g_iload_n C dX4_readPart_98 4 rfl rfl ?_
                        refine g_iconst C dX4_readPart_99 (v := (nI 1)) (by decide) ?_
                        refine g_iadd C dX4_readPart_100 (v := (nI (dv + 1))) (nI_add _ _) ?_
                        refine g_callUV C hX (hE1 hk ((nxt tb tl pq) + 1) (by omega)) rfl gX4_readPart_X4_readEnclosed 1 (by decide +kernel) rfl ⟨rfl, rfl⟩ ⟨by show _ ≤ _; simp only []; omega, by show _ ≤ _; simp only []; omega⟩ (rest := []) (q0 := 0) rfl rfl hA [0, 1] [] rfl rfl rfl (wr := []) rfl rfl rfl (Nat.le_of_ble_eq_true rfl) dX4_readPart_101 ⟨Nat.le_of_ble_eq_true rfl, Nat.le_of_ble_eq_true rfl⟩ rfl (g_kul (fun r101 w hr => ?_))
                        obtain ⟨pl101, er101, rfl, hP101⟩ := hr
                        refine g_ws (ws' := [(t0, .inr (3, [.int (nI tl), .long lf, .ref tz, .int pl101, .int er101])), (tz, .inl (ty.1, 300, .inl (zN tb)))]) [0, 1] rfl rfl rfl ?_
                        refine g_goto C dX4_readPart_104 (tgt := 119) (by decide) ?_
                        refine hR _ _ _ _ _ _ dX4_readPart_119 ?_ (by omega) (by omega)
                        first
                        | exact ⟨_, _, rfl, by rw [pa_b h120 h29 h40 hk]; exact hP101⟩
                        | (refine ⟨_, _, rfl, ?_⟩
                           rw [pa_u h120 h29 h40 ho3 (by omega) hk]
                           rcases hP112 with ⟨f, q, z1, z2, z3, z4, z5⟩ | ⟨e, z1, z2, z3⟩
                           · rw [z1, z3]; exact Or.inl ⟨_, _, rfl, z2, rfl, z4, z5⟩
                           · rw [z1]; exact Or.inr ⟨_, rfl, z2, z3⟩)
                    · skip
                      have L73 : ∀ (n9 : Nat) , 0 < n9 → ((¬ (hre tb tl (nxt tb tl pq)) = nI 40 ∧ opS (hre tb tl (nxt tb tl pq)) 4 0 = -1) ∨ k = 0) → gG (g_IU A D s) p l e ({ frames := 3 * k + 8, cells := 0, slots := 0, locals := 100 * k + 200 } : Room) s m args below meth c Q 5 0 0 73 [(0, .ref t0), (1, .int (nI dv))] [] [(t0, .inr (3, [.int (nI tl), .long lf, .ref tz, .int (nI (nxt tb tl pq)), .int (-1)])), (tz, .inl (ty.1, 300, .inl (zN tb)))] := by
                        intro n9
                        induction n9 with
                        | zero => intro  hn; exact absurd hn (Nat.not_lt_zero _)
                        | succ n9 ih73 =>
                          intro  hn73 h73
                          refine g_aload_n C dX4_readPart_73 0 rfl rfl ?_
                          refine g_aload_n C dX4_readPart_74 0 rfl rfl ?_
                          refine g_get C 0 rfl rfl 3 (by decide) (fun _ h => (List.mem_cons_of_mem _ (List.mem_append_right _ h))) 1 rfl rfl rfl dX4_readPart_75 ?_
                          refine g_callUV C ⟨g_X0_ok, trivial⟩ (t_X4_failAt l D ty t0 tz (nI tl) lf (nI (nxt tb tl pq)) (-1) (nI (nxt tb tl pq))) rfl gX4_readPart_X4_failAt 1 (by decide +kernel) rfl ⟨rfl, rfl⟩ ⟨Nat.le_of_ble_eq_true rfl, Nat.le_of_ble_eq_true rfl⟩ (rest := []) (q0 := 0) rfl rfl hA [0] [1] rfl rfl rfl (wr := [(tz, .inl (ty.1, 300, .inl (zN tb)))]) rfl rfl rfl (Nat.le_of_ble_eq_true rfl) dX4_readPart_78 ⟨Nat.le_of_ble_eq_true rfl, Nat.le_of_ble_eq_true rfl⟩ rfl (g_kul (fun r w hr => ?_))
                          obtain ⟨rfl, rfl⟩ := hr
                          refine g_ws (ws' := [(t0, .inr (3, [.int (nI tl), .long lf, .ref tz, .int (nI (nxt tb tl pq)), .int (nI (nxt tb tl pq))])), (tz, .inl (ty.1, 300, .inl (zN tb)))]) [1, 0] rfl rfl rfl ?_
                          refine hR _ _ _ _ _ _ dX4_readPart_81 ?_ (by omega) (by omega)
                          exact ⟨_, _, rfl, Or.inr ⟨_, pa_e h120 h29 h73, by omega, rfl⟩⟩
                      refine g_lv [3, 4] rfl ?_
                      exact L73 _  (Nat.lt_succ_self _) (by first | exact Or.inr (by omega) | exact Or.inl ⟨deB_0 h59, t_eq.mpr h64⟩)
                exact L67 _  (Nat.lt_succ_self _) (by first | exact fun z => z.1 (deB_1 h59) | exact fun z => h64 (t_eq.mp z.2))
        exact L55 _  (Nat.lt_succ_self _) 
    · skip
      have h29b := in_1 h29
      have c48 := nI_toInt (n := 48) (by decide)
      have c57 := nI_toInt (n := 57) (by decide)
      have hlt : nxt tb tl pq < tl := hre_in (fun z => by rw [z] at h29b; have zz : (-1 : Int32).toInt = -1 := (by decide); omega)
      have hbq := hb (nxt tb tl pq)
      rw [hre_t hlt, nI_toInt (show tb (nxt tb tl pq) < 2 ^ 31 by omega)] at h29b
      refine g_aload_n C dX4_readPart_32 1 rfl rfl ?_
      refine g_callUV C ⟨g_X0_ok, trivial⟩ (t_X4_readNumber l D ty t0 tz tl lf tb hb htl (nxt tb tl pq) (by omega) (by omega) (by omega)) rfl gX4_readPart_X4_readNumber 0 (by decide +kernel) rfl ⟨rfl, rfl⟩ ⟨Nat.le_of_ble_eq_true rfl, Nat.le_of_ble_eq_true rfl⟩ (rest := []) (q0 := 0) rfl rfl hA [0, 1] [] rfl rfl rfl (wr := []) rfl rfl rfl (Nat.le_of_ble_eq_true rfl) dX4_readPart_33 ⟨Nat.le_of_ble_eq_true rfl, Nat.le_of_ble_eq_true rfl⟩ rfl (g_kul (fun r33 w hr => ?_))
      obtain ⟨pl33, er33, rfl, hP33⟩ := hr
      refine g_ws (ws' := [(t0, .inr (3, [.int (nI tl), .long lf, .ref tz, .int pl33, .int er33])), (tz, .inl (ty.1, 300, .inl (zN tb)))]) [0, 1] rfl rfl rfl ?_
      refine hR _ _ _ _ _ _ dX4_readPart_36 ?_ (by omega) (by omega)
      exact ⟨_, _, rfl, by rw [pa_n h120 h29]; exact hP33⟩
  · skip
    have h120 := t_eq.mpr h8
    have hlt := hre_nI (by decide) h120
    refine g_aload_n C dX4_readPart_11 1 rfl rfl ?_
    refine g_dup C dX4_readPart_12 rfl ?_
    refine g_get C 0 rfl rfl 3 (by decide) (fun _ h => (List.mem_cons_of_mem _ (List.mem_append_right _ h))) 1 rfl rfl rfl dX4_readPart_13 ?_
    refine g_iconst C dX4_readPart_16 (v := (nI 1)) (by decide) ?_
    refine g_iadd C dX4_readPart_17 (v := (nI ((nxt tb tl pq) + 1))) (nI_add _ _) ?_
    refine g_put C 0 rfl rfl 3 (by decide) (fun _ h => (List.mem_cons_of_mem _ (List.mem_append_right _ h))) 1 rfl rfl tyX4 tyX4_ok nmX4 rfl rfl rfl rfl (Nat.le_of_ble_eq_true rfl) (ws' := [(t0, .inr (3, [.int (nI tl), .long lf, .ref tz, .int (nI ((nxt tb tl pq) + 1)), .int (-1)])), (tz, .inl (ty.1, 300, .inl (zN tb)))]) rfl dX4_readPart_18 ?_
    refine g_ldc2 C (v := (-81985529216486896)) 2 rfl dX4_readPart_21 ?_
    refine hR _ _ _ _ _ _ dX4_readPart_24 ?_ (by omega) (by omega)
    exact ⟨_, _, rfl, Or.inl ⟨_, _, pa_x h120, by omega, rfl, rfl, rfl⟩⟩

theorem t_X4_lev (l : Launch) (D : va_G) (ty : g_T3) (t0 tz tl : Nat) (lf : Int64) (tb : Nat → Nat) (hb : ∀ i, tb i < 256) (htl : tl ≤ 300) : ∀ k dv : Nat, dv + k = 20 → ∀ pq : Nat, pq ≤ tl → g_U l yX4_readPart wsX4_readPart ({ frames := 3 * k + 8, cells := 0, slots := 0, locals := 100 * k + 200 } : Room) D ty g_XN [.ref t0, .int (nI dv)] [(t0, .inr (3, [.int (nI tl), .long lf, .ref tz, .int (nI pq), .int (-1)])), (tz, .inl (ty.1, 300, .inl (zN tb)))] 0 0 (g_ul (fun r w => ∃ pl er, w = [(t0, .inr (3, [.int (nI tl), .long lf, .ref tz, .int pl, .int er])), (tz, .inl (ty.1, 300, .inl (zN tb)))] ∧ psC (paK tb tl k pq) tl r pl er)) := by
  intro k
  induction k with
  | zero =>
    intro dv hkd pq hp
    exact t_X4_readPart l D ty t0 tz tl lf tb hb htl 0 dv hkd (fun h => absurd h (Nat.lt_irrefl 0)) (fun h => absurd h (Nat.lt_irrefl 0)) pq hp
  | succ k ih =>
    intro dv hkd pq hp
    have hF := t_X4_readFormula l D ty t0 tz tl lf tb hb htl k (dv + 1) (ih (dv + 1) (by omega))
    exact t_X4_readPart l D ty t0 tz tl lf tb hb htl (k + 1) dv hkd (fun _ => t_X4_readEnclosed l D ty t0 tz tl lf tb hb htl k (dv + 1) hF) (fun _ => ih (dv + 1) (by omega)) pq hp
theorem t_X4_form (l : Launch) (D : va_G) (ty : g_T3) (t0 tz tl : Nat) (lf : Int64) (tb : Nat → Nat) (hb : ∀ i, tb i < 256) (htl : tl ≤ 300) (pq : Nat) (hp : pq ≤ tl) : g_U l yX4_readFormula wsX4_readFormula ({ frames := 3 * 20 + 9, cells := 0, slots := 0, locals := 100 * 20 + 230 } : Room) D ty g_XN [.ref t0, .int (nI 0)] [(t0, .inr (3, [.int (nI tl), .long lf, .ref tz, .int (nI pq), .int (-1)])), (tz, .inl (ty.1, 300, .inl (zN tb)))] 0 0 (g_ul (fun r w => ∃ pl er, w = [(t0, .inr (3, [.int (nI tl), .long lf, .ref tz, .int pl, .int er])), (tz, .inl (ty.1, 300, .inl (zN tb)))] ∧ psC (foR tb tl (paK tb tl 20) pq) tl r pl er)) := t_X4_readFormula l D ty t0 tz tl lf tb hb htl 20 0 (t_X4_lev l D ty t0 tz tl lf tb hb htl 20 0 rfl) pq hp

abbrev rm_t_X4_takeFormula : Room := ({ frames := 70, cells := 0, slots := 0, locals := 2256 } : Room)
set_option maxHeartbeats 4000000 in
set_option maxRecDepth 100000 in
theorem t_X4_takeFormula (l : Launch) (D : va_G) (ty : g_T3) (t0 tz tl : Nat) (lf : Int64) (tb : Nat → Nat) (hb : ∀ i, tb i < 256) (htl : tl ≤ 300) (pl er : Int32) : g_U l yX4_takeFormula wsX4_takeFormula rm_t_X4_takeFormula D ty g_XN [.ref t0] [(t0, .inr (3, [.int (nI tl), .long lf, .ref tz, .int pl, .int er])), (tz, .inl (ty.1, 300, .inl (zN tb)))] 0 0 (g_ui (fun r w => ∃ pl2 er2, (∃ f, rdF tb tl = .inl f ∧ r = -1 ∧ w = [(t0, .inr (3, [.int (nI 0), .long f, .ref tz, .int pl2, .int er2])), (tz, .inl (ty.1, 300, .inl (zN tb)))]) ∨ (∃ e, rdF tb tl = .inr e ∧ r = nI e ∧ w = [(t0, .inr (3, [.int (nI 0), .long lf, .ref tz, .int pl2, .int er2])), (tz, .inl (ty.1, 300, .inl (zN tb)))]))) := by
  refine g_ofUi (cc := cX4_takeFormula) (nL := 3) (own := RX4) (by decide) rfl rfl g_XN_ok (Nat.le_of_ble_eq_true rfl) ?_
  intro p e s m args below meth c Q A C hA hX hin hR
  refine g_lv (lv' := [(0, .ref t0)]) [0] rfl ?_
  refine g_aload_n C dX4_takeFormula_0 0 rfl rfl ?_
  refine g_iconst C dX4_takeFormula_1 (v := (nI 0)) (by decide) ?_
  refine g_put C 0 rfl rfl 3 (by decide) (fun _ h => (List.mem_cons_of_mem _ (List.mem_append_right _ h))) 1 rfl rfl tyX4 tyX4_ok nmX4 rfl rfl rfl rfl (Nat.le_of_ble_eq_true rfl) (ws' := [(t0, .inr (3, [.int (nI tl), .long lf, .ref tz, .int (nI 0), .int er])), (tz, .inl (ty.1, 300, .inl (zN tb)))]) rfl dX4_takeFormula_2 ?_
  refine g_aload_n C dX4_takeFormula_5 0 rfl rfl ?_
  refine g_iconst C dX4_takeFormula_6 (v := (-1)) (by decide) ?_
  refine g_put C 0 rfl rfl 4 (by decide) (fun _ h => (List.mem_cons_of_mem _ (List.mem_append_right _ h))) 2 rfl rfl tyX4 tyX4_ok nmX4 rfl rfl rfl rfl (Nat.le_of_ble_eq_true rfl) (ws' := [(t0, .inr (3, [.int (nI tl), .long lf, .ref tz, .int (nI 0), .int (-1)])), (tz, .inl (ty.1, 300, .inl (zN tb)))]) rfl dX4_takeFormula_7 ?_
  refine g_aload_n C dX4_takeFormula_10 0 rfl rfl ?_
  refine g_iconst C dX4_takeFormula_11 (v := (nI 0)) (by decide) ?_
  refine g_callUV C hX (t_X4_form l D ty t0 tz tl lf tb hb htl 0 (by omega)) rfl gX4_takeFormula_X4_readFormula 1 (by decide +kernel) rfl ⟨rfl, rfl⟩ ⟨Nat.le_of_ble_eq_true rfl, Nat.le_of_ble_eq_true rfl⟩ (rest := []) (q0 := 0) rfl rfl hA [0, 1] [] rfl rfl rfl (wr := []) rfl rfl rfl (Nat.le_of_ble_eq_true rfl) dX4_takeFormula_12 ⟨Nat.le_of_ble_eq_true rfl, Nat.le_of_ble_eq_true rfl⟩ rfl (g_kul (fun r12 w hr => ?_))
  obtain ⟨pl12, er12, rfl, hP12⟩ := hr
  refine g_ws (ws' := [(t0, .inr (3, [.int (nI tl), .long lf, .ref tz, .int pl12, .int er12])), (tz, .inl (ty.1, 300, .inl (zN tb)))]) [0, 1] rfl rfl rfl ?_
  refine g_lstore_n C dX4_takeFormula_15 rfl (by decide) (lv' := [(1, .long r12), (0, .ref t0)]) rfl ?_
  refine g_aload_n C dX4_takeFormula_16 1 rfl rfl ?_
  refine g_callPV C ⟨g_X0_ok, trivial⟩ (t_X4_hasError l D ty t0 tz (nI tl) lf pl12 er12) rfl gX4_takeFormula_X4_hasError 0 (by decide +kernel) rfl ⟨rfl, rfl⟩ ⟨Nat.le_of_ble_eq_true rfl, Nat.le_of_ble_eq_true rfl⟩ (rest := []) (q0 := 0) rfl rfl [0] rfl (Nat.le_of_ble_eq_true rfl) dX4_takeFormula_17 ⟨Nat.le_of_ble_eq_true rfl, Nat.le_of_ble_eq_true rfl⟩ rfl (g_ki (fun r hr => ?_))
  subst hr
  have := bt_lt (heB er12)
  refine g_if_neN C dX4_takeFormula_20 (tgt := 40) (by decide) (by omega) (fun h20 => ?_) (fun h20 => ?_)
  · skip
    obtain ⟨e12, hA12, hq12, hz12⟩ := psC_er hP12 (he_1 h20)
    have L40 : ∀ (n9 : Nat) (r2 : Int64) (pl2 er2 : Int32), 0 < n9 → ((∃ f, rdF tb tl = .inl f ∧ r2 = f ∧ er2 = -1) ∨ (∃ e, rdF tb tl = .inr e ∧ er2 = nI e ∧ e ≤ 300)) → gG (g_IU A D s) p l e rm_t_X4_takeFormula s m args below meth c Q 3 0 0 40 [(1, .long r2), (0, .ref t0)] [] [(t0, .inr (3, [.int (nI tl), .long lf, .ref tz, .int pl2, .int er2])), (tz, .inl (ty.1, 300, .inl (zN tb)))] := by
      intro n9
      induction n9 with
      | zero => intro r2 pl2 er2 hn; exact absurd hn (Nat.not_lt_zero _)
      | succ n9 ih40 =>
        intro r2 pl2 er2 hn40 h40
        refine g_aload_n C dX4_takeFormula_40 1 rfl rfl ?_
        refine g_iconst C dX4_takeFormula_41 (v := (nI 0)) (by decide) ?_
        refine g_put C 0 rfl rfl 0 (by decide) (fun _ h => (List.mem_cons_of_mem _ (List.mem_append_right _ h))) 3 rfl rfl tyX4 tyX4_ok nmX4 rfl rfl rfl rfl (Nat.le_of_ble_eq_true rfl) (ws' := [(t0, .inr (3, [.int (nI 0), .long lf, .ref tz, .int pl2, .int er2])), (tz, .inl (ty.1, 300, .inl (zN tb)))]) rfl dX4_takeFormula_42 ?_
        refine g_aload_n C dX4_takeFormula_45 1 rfl rfl ?_
        refine g_callPV C ⟨g_X0_ok, trivial⟩ (t_X4_hasError l D ty t0 tz (nI 0) lf pl2 er2) rfl gX4_takeFormula_X4_hasError 0 (by decide +kernel) rfl ⟨rfl, rfl⟩ ⟨Nat.le_of_ble_eq_true rfl, Nat.le_of_ble_eq_true rfl⟩ (rest := []) (q0 := 0) rfl rfl [0] rfl (Nat.le_of_ble_eq_true rfl) dX4_takeFormula_46 ⟨Nat.le_of_ble_eq_true rfl, Nat.le_of_ble_eq_true rfl⟩ rfl (g_ki (fun r hr => ?_))
        subst hr
        have := bt_lt (heB er2)
        refine g_if_neN C dX4_takeFormula_49 (tgt := 57) (by decide) (by omega) (fun h49 => ?_) (fun h49 => ?_)
        · skip
          have hz := he_1 h49
          refine g_aload_n C dX4_takeFormula_57 1 rfl rfl ?_
          refine g_get C 0 rfl rfl 4 (by decide) (fun _ h => (List.mem_cons_of_mem _ (List.mem_append_right _ h))) 2 rfl rfl rfl dX4_takeFormula_58 ?_
          refine hR _ _ _ _ _ _ dX4_takeFormula_61 ?_ (by omega) (by omega)
          rcases h40 with ⟨f, z1, z2, z3⟩ | ⟨e, z1, z2, z3⟩
          · first
            | exact absurd z3 hz
            | exact ⟨_, _, Or.inl ⟨f, z1, z3, by rw [z2]⟩⟩
          · first
            | exact ⟨_, _, Or.inr ⟨e, z1, z2, rfl⟩⟩
            | exact absurd (z2.symm.trans hz) (nI_m1 (by omega))
        · skip
          have hz := he_0 h49
          refine g_aload_n C dX4_takeFormula_52 1 rfl rfl ?_
          refine g_lload_n C dX4_takeFormula_53 0 rfl rfl ?_
          refine g_put C 0 rfl rfl 1 (by decide) (fun _ h => (List.mem_cons_of_mem _ (List.mem_append_right _ h))) 4 rfl rfl tyX4 tyX4_ok nmX4 rfl rfl rfl rfl (Nat.le_of_ble_eq_true rfl) (ws' := [(t0, .inr (3, [.int (nI 0), .long r2, .ref tz, .int pl2, .int er2])), (tz, .inl (ty.1, 300, .inl (zN tb)))]) rfl dX4_takeFormula_54 ?_
          refine g_aload_n C dX4_takeFormula_57 1 rfl rfl ?_
          refine g_get C 0 rfl rfl 4 (by decide) (fun _ h => (List.mem_cons_of_mem _ (List.mem_append_right _ h))) 2 rfl rfl rfl dX4_takeFormula_58 ?_
          refine hR _ _ _ _ _ _ dX4_takeFormula_61 ?_ (by omega) (by omega)
          rcases h40 with ⟨f, z1, z2, z3⟩ | ⟨e, z1, z2, z3⟩
          · first
            | exact absurd z3 hz
            | exact ⟨_, _, Or.inl ⟨f, z1, z3, by rw [z2]⟩⟩
          · first
            | exact ⟨_, _, Or.inr ⟨e, z1, z2, rfl⟩⟩
            | exact absurd (z2.symm.trans hz) (nI_m1 (by omega))
    exact L40 _ r12 pl12 er12 (Nat.lt_succ_self _) (by first | exact Or.inl ⟨_, rd_0 hA12 (by omega), rfl, rfl⟩ | exact Or.inr ⟨_, rd_1 hA12 (by omega), rfl, by omega⟩ | exact Or.inr ⟨_, rd_e hA12, hz12, by omega⟩)
  · skip
    have hz12 := he_0 h20
    obtain ⟨f2, q2, hA12, hq12, hr12, hpl12⟩ := psC_ok htl hP12 hz12
    subst hr12
    subst hpl12
    subst hz12
    refine g_aload_n C dX4_takeFormula_23 1 rfl rfl ?_
    refine g_callUV C ⟨g_X0_ok, trivial⟩ (t_X4_next l D ty t0 tz tl lf tb hb htl q2 (by omega) (-1)) rfl gX4_takeFormula_X4_next 0 (by decide +kernel) rfl ⟨rfl, rfl⟩ ⟨Nat.le_of_ble_eq_true rfl, Nat.le_of_ble_eq_true rfl⟩ (rest := []) (q0 := 0) rfl rfl hA [0, 1] [] rfl rfl rfl (wr := []) rfl rfl rfl (Nat.le_of_ble_eq_true rfl) dX4_takeFormula_24 ⟨Nat.le_of_ble_eq_true rfl, Nat.le_of_ble_eq_true rfl⟩ rfl (g_kui (fun r w hr => ?_))
    obtain ⟨rfl, rfl⟩ := hr
    have hn24 := nxt_le (tb := tb) (tl := tl) (p := q2) (by omega)
    refine g_ws (ws' := [(t0, .inr (3, [.int (nI tl), .long lf, .ref tz, .int (nI (nxt tb tl q2)), .int (-1)])), (tz, .inl (ty.1, 300, .inl (zN tb)))]) [0, 1] rfl rfl rfl ?_
    refine g_iconst C dX4_takeFormula_27 (v := (-1)) (by decide) ?_
    refine g_icmp_eq C dX4_takeFormula_28 (tgt := 40) (by decide) (fun h28 => ?_) (fun h28 => ?_)
    · skip
      have hge := hre_m1 hb (t_eq.mpr h28)
      have L40 : ∀ (n9 : Nat) (r2 : Int64) (pl2 er2 : Int32), 0 < n9 → ((∃ f, rdF tb tl = .inl f ∧ r2 = f ∧ er2 = -1) ∨ (∃ e, rdF tb tl = .inr e ∧ er2 = nI e ∧ e ≤ 300)) → gG (g_IU A D s) p l e rm_t_X4_takeFormula s m args below meth c Q 3 0 0 40 [(1, .long r2), (0, .ref t0)] [] [(t0, .inr (3, [.int (nI tl), .long lf, .ref tz, .int pl2, .int er2])), (tz, .inl (ty.1, 300, .inl (zN tb)))] := by
        intro n9
        induction n9 with
        | zero => intro r2 pl2 er2 hn; exact absurd hn (Nat.not_lt_zero _)
        | succ n9 ih40 =>
          intro r2 pl2 er2 hn40 h40
          refine g_aload_n C dX4_takeFormula_40 1 rfl rfl ?_
          refine g_iconst C dX4_takeFormula_41 (v := (nI 0)) (by decide) ?_
          refine g_put C 0 rfl rfl 0 (by decide) (fun _ h => (List.mem_cons_of_mem _ (List.mem_append_right _ h))) 3 rfl rfl tyX4 tyX4_ok nmX4 rfl rfl rfl rfl (Nat.le_of_ble_eq_true rfl) (ws' := [(t0, .inr (3, [.int (nI 0), .long lf, .ref tz, .int pl2, .int er2])), (tz, .inl (ty.1, 300, .inl (zN tb)))]) rfl dX4_takeFormula_42 ?_
          refine g_aload_n C dX4_takeFormula_45 1 rfl rfl ?_
          refine g_callPV C ⟨g_X0_ok, trivial⟩ (t_X4_hasError l D ty t0 tz (nI 0) lf pl2 er2) rfl gX4_takeFormula_X4_hasError 0 (by decide +kernel) rfl ⟨rfl, rfl⟩ ⟨Nat.le_of_ble_eq_true rfl, Nat.le_of_ble_eq_true rfl⟩ (rest := []) (q0 := 0) rfl rfl [0] rfl (Nat.le_of_ble_eq_true rfl) dX4_takeFormula_46 ⟨Nat.le_of_ble_eq_true rfl, Nat.le_of_ble_eq_true rfl⟩ rfl (g_ki (fun r hr => ?_))
          subst hr
          have := bt_lt (heB er2)
          refine g_if_neN C dX4_takeFormula_49 (tgt := 57) (by decide) (by omega) (fun h49 => ?_) (fun h49 => ?_)
          · skip
            have hz := he_1 h49
            refine g_aload_n C dX4_takeFormula_57 1 rfl rfl ?_
            refine g_get C 0 rfl rfl 4 (by decide) (fun _ h => (List.mem_cons_of_mem _ (List.mem_append_right _ h))) 2 rfl rfl rfl dX4_takeFormula_58 ?_
            refine hR _ _ _ _ _ _ dX4_takeFormula_61 ?_ (by omega) (by omega)
            rcases h40 with ⟨f, z1, z2, z3⟩ | ⟨e, z1, z2, z3⟩
            · first
              | exact absurd z3 hz
              | exact ⟨_, _, Or.inl ⟨f, z1, z3, by rw [z2]⟩⟩
            · first
              | exact ⟨_, _, Or.inr ⟨e, z1, z2, rfl⟩⟩
              | exact absurd (z2.symm.trans hz) (nI_m1 (by omega))
          · skip
            have hz := he_0 h49
            refine g_aload_n C dX4_takeFormula_52 1 rfl rfl ?_
            refine g_lload_n C dX4_takeFormula_53 0 rfl rfl ?_
            refine g_put C 0 rfl rfl 1 (by decide) (fun _ h => (List.mem_cons_of_mem _ (List.mem_append_right _ h))) 4 rfl rfl tyX4 tyX4_ok nmX4 rfl rfl rfl rfl (Nat.le_of_ble_eq_true rfl) (ws' := [(t0, .inr (3, [.int (nI 0), .long r2, .ref tz, .int pl2, .int er2])), (tz, .inl (ty.1, 300, .inl (zN tb)))]) rfl dX4_takeFormula_54 ?_
            refine g_aload_n C dX4_takeFormula_57 1 rfl rfl ?_
            refine g_get C 0 rfl rfl 4 (by decide) (fun _ h => (List.mem_cons_of_mem _ (List.mem_append_right _ h))) 2 rfl rfl rfl dX4_takeFormula_58 ?_
            refine hR _ _ _ _ _ _ dX4_takeFormula_61 ?_ (by omega) (by omega)
            rcases h40 with ⟨f, z1, z2, z3⟩ | ⟨e, z1, z2, z3⟩
            · first
              | exact absurd z3 hz
              | exact ⟨_, _, Or.inl ⟨f, z1, z3, by rw [z2]⟩⟩
            · first
              | exact ⟨_, _, Or.inr ⟨e, z1, z2, rfl⟩⟩
              | exact absurd (z2.symm.trans hz) (nI_m1 (by omega))
      exact L40 _ r12 (nI (nxt tb tl q2)) (-1) (Nat.lt_succ_self _) (by first | exact Or.inl ⟨_, rd_0 hA12 (by omega), rfl, rfl⟩ | exact Or.inr ⟨_, rd_1 hA12 (by omega), rfl, by omega⟩ | exact Or.inr ⟨_, rd_e hA12, hz12, by omega⟩)
    · skip
      have hlt := hre_in (fun z => h28 (t_eq.mp z))
      refine g_aload_n C dX4_takeFormula_31 1 rfl rfl ?_
      refine g_aload_n C dX4_takeFormula_32 1 rfl rfl ?_
      refine g_get C 0 rfl rfl 3 (by decide) (fun _ h => (List.mem_cons_of_mem _ (List.mem_append_right _ h))) 1 rfl rfl rfl dX4_takeFormula_33 ?_
      refine g_callUV C ⟨g_X0_ok, trivial⟩ (t_X4_failAt l D ty t0 tz (nI tl) lf (nI (nxt tb tl q2)) (-1) (nI (nxt tb tl q2))) rfl gX4_takeFormula_X4_failAt 1 (by decide +kernel) rfl ⟨rfl, rfl⟩ ⟨Nat.le_of_ble_eq_true rfl, Nat.le_of_ble_eq_true rfl⟩ (rest := []) (q0 := 0) rfl rfl hA [0] [1] rfl rfl rfl (wr := [(tz, .inl (ty.1, 300, .inl (zN tb)))]) rfl rfl rfl (Nat.le_of_ble_eq_true rfl) dX4_takeFormula_36 ⟨Nat.le_of_ble_eq_true rfl, Nat.le_of_ble_eq_true rfl⟩ rfl (g_kul (fun r w hr => ?_))
      obtain ⟨rfl, rfl⟩ := hr
      refine g_ws (ws' := [(t0, .inr (3, [.int (nI tl), .long lf, .ref tz, .int (nI (nxt tb tl q2)), .int (nI (nxt tb tl q2))])), (tz, .inl (ty.1, 300, .inl (zN tb)))]) [1, 0] rfl rfl rfl ?_
      refine g_pop2 C dX4_takeFormula_39 rfl ?_
      have L40 : ∀ (n9 : Nat) (r2 : Int64) (pl2 er2 : Int32), 0 < n9 → ((∃ f, rdF tb tl = .inl f ∧ r2 = f ∧ er2 = -1) ∨ (∃ e, rdF tb tl = .inr e ∧ er2 = nI e ∧ e ≤ 300)) → gG (g_IU A D s) p l e rm_t_X4_takeFormula s m args below meth c Q 3 0 0 40 [(1, .long r2), (0, .ref t0)] [] [(t0, .inr (3, [.int (nI tl), .long lf, .ref tz, .int pl2, .int er2])), (tz, .inl (ty.1, 300, .inl (zN tb)))] := by
        intro n9
        induction n9 with
        | zero => intro r2 pl2 er2 hn; exact absurd hn (Nat.not_lt_zero _)
        | succ n9 ih40 =>
          intro r2 pl2 er2 hn40 h40
          refine g_aload_n C dX4_takeFormula_40 1 rfl rfl ?_
          refine g_iconst C dX4_takeFormula_41 (v := (nI 0)) (by decide) ?_
          refine g_put C 0 rfl rfl 0 (by decide) (fun _ h => (List.mem_cons_of_mem _ (List.mem_append_right _ h))) 3 rfl rfl tyX4 tyX4_ok nmX4 rfl rfl rfl rfl (Nat.le_of_ble_eq_true rfl) (ws' := [(t0, .inr (3, [.int (nI 0), .long lf, .ref tz, .int pl2, .int er2])), (tz, .inl (ty.1, 300, .inl (zN tb)))]) rfl dX4_takeFormula_42 ?_
          refine g_aload_n C dX4_takeFormula_45 1 rfl rfl ?_
          refine g_callPV C ⟨g_X0_ok, trivial⟩ (t_X4_hasError l D ty t0 tz (nI 0) lf pl2 er2) rfl gX4_takeFormula_X4_hasError 0 (by decide +kernel) rfl ⟨rfl, rfl⟩ ⟨Nat.le_of_ble_eq_true rfl, Nat.le_of_ble_eq_true rfl⟩ (rest := []) (q0 := 0) rfl rfl [0] rfl (Nat.le_of_ble_eq_true rfl) dX4_takeFormula_46 ⟨Nat.le_of_ble_eq_true rfl, Nat.le_of_ble_eq_true rfl⟩ rfl (g_ki (fun r hr => ?_))
          subst hr
          have := bt_lt (heB er2)
          refine g_if_neN C dX4_takeFormula_49 (tgt := 57) (by decide) (by omega) (fun h49 => ?_) (fun h49 => ?_)
          · skip
            have hz := he_1 h49
            refine g_aload_n C dX4_takeFormula_57 1 rfl rfl ?_
            refine g_get C 0 rfl rfl 4 (by decide) (fun _ h => (List.mem_cons_of_mem _ (List.mem_append_right _ h))) 2 rfl rfl rfl dX4_takeFormula_58 ?_
            refine hR _ _ _ _ _ _ dX4_takeFormula_61 ?_ (by omega) (by omega)
            rcases h40 with ⟨f, z1, z2, z3⟩ | ⟨e, z1, z2, z3⟩
            · first
              | exact absurd z3 hz
              | exact ⟨_, _, Or.inl ⟨f, z1, z3, by rw [z2]⟩⟩
            · first
              | exact ⟨_, _, Or.inr ⟨e, z1, z2, rfl⟩⟩
              | exact absurd (z2.symm.trans hz) (nI_m1 (by omega))
          · skip
            have hz := he_0 h49
            refine g_aload_n C dX4_takeFormula_52 1 rfl rfl ?_
            refine g_lload_n C dX4_takeFormula_53 0 rfl rfl ?_
            refine g_put C 0 rfl rfl 1 (by decide) (fun _ h => (List.mem_cons_of_mem _ (List.mem_append_right _ h))) 4 rfl rfl tyX4 tyX4_ok nmX4 rfl rfl rfl rfl (Nat.le_of_ble_eq_true rfl) (ws' := [(t0, .inr (3, [.int (nI 0), .long r2, .ref tz, .int pl2, .int er2])), (tz, .inl (ty.1, 300, .inl (zN tb)))]) rfl dX4_takeFormula_54 ?_
            refine g_aload_n C dX4_takeFormula_57 1 rfl rfl ?_
            refine g_get C 0 rfl rfl 4 (by decide) (fun _ h => (List.mem_cons_of_mem _ (List.mem_append_right _ h))) 2 rfl rfl rfl dX4_takeFormula_58 ?_
            refine hR _ _ _ _ _ _ dX4_takeFormula_61 ?_ (by omega) (by omega)
            rcases h40 with ⟨f, z1, z2, z3⟩ | ⟨e, z1, z2, z3⟩
            · first
              | exact absurd z3 hz
              | exact ⟨_, _, Or.inl ⟨f, z1, z3, by rw [z2]⟩⟩
            · first
              | exact ⟨_, _, Or.inr ⟨e, z1, z2, rfl⟩⟩
              | exact absurd (z2.symm.trans hz) (nI_m1 (by omega))
      exact L40 _ r12 (nI (nxt tb tl q2)) (nI (nxt tb tl q2)) (Nat.lt_succ_self _) (by first | exact Or.inl ⟨_, rd_0 hA12 (by omega), rfl, rfl⟩ | exact Or.inr ⟨_, rd_1 hA12 (by omega), rfl, by omega⟩ | exact Or.inr ⟨_, rd_e hA12, hz12, by omega⟩)


abbrev rm_t_X2_entryWith : Room := ({ frames := 1, cells := 0, slots := 0, locals := 25 } : Room)
set_option maxHeartbeats 4000000 in
set_option maxRecDepth 100000 in
theorem t_X2_entryWith (l : Launch) (D : va_G) (ty : g_T3) (k0 kf ko ka kb kt kl kp : Nat) (es : List Ent) (fF : Nat → Int64) (oF aF bF tF sF pF : Nat → Int32) (hw : rowOk es fF oF aF bF sF) (f : Int64) : g_P l yX2_entryWith wsX2_entryWith rm_t_X2_entryWith D ty g_X0 [.ref k0, .long f] [(k0, .inr (1, [.int (nI es.length), .ref kf, .ref ko, .ref ka, .ref kb, .ref kt, .ref kl, .ref kp])), (kf, .inl (ty.2.1, 2000, .inr (.inl fF))), (kl, .inl (ty.1, 4096, .inl sF))] (g_pi (fun r => r = nI (fnN es f es.length) - 1)) := by
  refine g_ofPi (cc := cX2_entryWith) (nL := 4) (own := RX2) (by decide) rfl rfl g_X0_ok (Nat.le_of_ble_eq_true rfl) ?_
  intro p e s m args below meth c Q C hX hR
  refine g_lv (lv' := [(0, .ref k0), (1, .long f)]) [0, 1] rfl ?_
  have hl0 := hw.2.2.2
  refine g_aload_n C dX2_entryWith_0 0 rfl rfl ?_
  refine g_lload_n C dX2_entryWith_1 1 rfl rfl ?_
  refine g_callPV C ⟨g_X0_ok, trivial⟩ (t_X2_slotOf l D ty k0 kf ko ka kb kt kl kp es fF sF f (fun i hi => (hw.1 i hi).1) hw.2.1 hw.2.2.2) rfl gX2_entryWith_X2_slotOf 1 (by decide +kernel) rfl ⟨rfl, rfl⟩ ⟨Nat.le_of_ble_eq_true rfl, Nat.le_of_ble_eq_true rfl⟩ (rest := []) (q0 := 0) rfl rfl [0, 1, 2] rfl (Nat.le_of_ble_eq_true rfl) dX2_entryWith_2 ⟨Nat.le_of_ble_eq_true rfl, Nat.le_of_ble_eq_true rfl⟩ rfl (g_ki (fun r hr => ?_))
  obtain ⟨n0, rfl, hp, hs⟩ := hr
  have hm : (hsh f + n0) % 4096 < 4096 := Nat.mod_lt _ (by decide)
  refine g_istore_n C dX2_entryWith_5 rfl (by decide) (lv' := [(3, .int (nI ((hsh f + n0) % 4096))), (0, .ref k0), (1, .long f)]) rfl ?_
  refine g_iload_n C dX2_entryWith_6 0 rfl rfl ?_
  refine g_iconst C dX2_entryWith_7 (v := (-1)) (by decide) ?_
  refine g_icmp_ne C dX2_entryWith_8 (tgt := 15) (by decide) (fun h8 => ?_) (fun h8 => ?_)
  · skip
    refine g_aload_n C dX2_entryWith_15 1 rfl rfl ?_
    refine g_get C 0 rfl rfl 6 (by decide) (fun _ h => (List.mem_cons_of_mem _ (List.mem_append_right _ h))) 1 rfl rfl rfl dX2_entryWith_16 ?_
    refine g_iload_n C dX2_entryWith_19 0 rfl rfl ?_
    refine g_iald C (v := (sF ((hsh f + n0) % 4096))) 2 rfl (by omega) (by omega) rfl dX2_entryWith_20 ?_
    refine hR _ _ _ _ dX2_entryWith_21 ?_
    rcases hs with hk | ⟨i, hi, hv, he⟩
    · rw [hk, fn_no (h_out hw.2.1 hl0 hp hk)]; rfl
    · rw [hv, fn_at hw.2.2.1 hi he]; exact (nI_pred i).symm
  · skip
    exact absurd (t_eq.mpr h8) (nI_m1 (by omega))

abbrev rm_t_X2_firstAlike : Room := ({ frames := 0, cells := 0, slots := 0, locals := 0 } : Room)
set_option maxHeartbeats 4000000 in
set_option maxRecDepth 100000 in
theorem t_X2_firstAlike (l : Launch) (D : va_G) (ty : g_T3) (k0 kf ko ka kb kt kl kp : Nat) (es : List Ent) (fF : Nat → Int64) (oF aF bF tF sF pF : Nat → Int32) (hw : rowOk es fF oF aF bF sF) (f mk : Int64) : g_P l yX2_firstAlike wsX2_firstAlike rm_t_X2_firstAlike D ty g_X0 [.ref k0, .long f, .long mk] [(k0, .inr (1, [.int (nI es.length), .ref kf, .ref ko, .ref ka, .ref kb, .ref kt, .ref kl, .ref kp])), (kf, .inl (ty.2.1, 2000, .inr (.inl fF)))] (g_pi (fun r => fstI (fun j => (eF es j ^^^ f) &&& mk = 0) es.length r)) := by
  refine g_ofPi (cc := cX2_firstAlike) (nL := 6) (own := RX2) (by decide) rfl rfl g_X0_ok (Nat.le_of_ble_eq_true rfl) ?_
  intro p e s m args below meth c Q C hX hR
  refine g_lv (lv' := [(0, .ref k0), (1, .long f), (3, .long mk)]) [0, 1, 2] rfl ?_
  have hl0 := hw.2.2.2
  refine g_iconst C dX2_firstAlike_0 (v := (nI 0)) (by decide) ?_
  refine g_istore C dX2_firstAlike_1 (by decide) (lv' := [(5, .int (nI 0)), (0, .ref k0), (1, .long f), (3, .long mk)]) rfl ?_
  have L3 : ∀ (n9 : Nat) (i : Nat), es.length - i < n9 → (i ≤ es.length) → (∀ j, j < i → ¬ ((eF es j ^^^ f) &&& mk = 0)) → gG (g_IP D s [(k0, .inr (1, [.int (nI es.length), .ref kf, .ref ko, .ref ka, .ref kb, .ref kt, .ref kl, .ref kp])), (kf, .inl (ty.2.1, 2000, .inr (.inl fF)))]) p l e rm_t_X2_firstAlike s m args below meth c Q 6 0 0 3 [(5, .int (nI i)), (0, .ref k0), (1, .long f), (3, .long mk)] [] [(k0, .inr (1, [.int (nI es.length), .ref kf, .ref ko, .ref ka, .ref kb, .ref kt, .ref kl, .ref kp])), (kf, .inl (ty.2.1, 2000, .inr (.inl fF)))] := by
    intro n9
    induction n9 with
    | zero => intro i hn; exact absurd hn (Nat.not_lt_zero _)
    | succ n9 ih3 =>
      intro i hn3 hi hj
      refine g_iload C dX2_firstAlike_3 0 rfl ?_
      refine g_aload_n C dX2_firstAlike_5 1 rfl rfl ?_
      refine g_get C 0 rfl rfl 0 (by decide) (fun _ h => (List.mem_cons_of_mem _ (List.mem_append_right _ h))) 1 rfl rfl rfl dX2_firstAlike_6 ?_
      refine g_icmp_geN C dX2_firstAlike_9 (tgt := 37) (by decide) (by omega) (by omega) (fun h9 => ?_) (fun h9 => ?_)
      · skip
        refine g_iconst C dX2_firstAlike_37 (v := (-1)) (by decide) ?_
        exact hR _ _ _ _ dX2_firstAlike_38 (Or.inr ⟨rfl, fun j h => hj j (by omega)⟩)
      · skip
        refine g_aload_n C dX2_firstAlike_12 1 rfl rfl ?_
        refine g_get C 0 rfl rfl 1 (by decide) (fun _ h => (List.mem_cons_of_mem _ (List.mem_append_right _ h))) 2 rfl rfl rfl dX2_firstAlike_13 ?_
        refine g_iload C dX2_firstAlike_16 0 rfl ?_
        refine g_lald C (v := (eF es i)) 1 rfl (by omega) (by omega) (hw.1 i (by omega)).1 dX2_firstAlike_18 ?_
        refine g_lload_n C dX2_firstAlike_19 2 rfl rfl ?_
        refine g_lxor C dX2_firstAlike_20 (v := ((eF es i) ^^^ f)) rfl ?_
        refine g_lload_n C dX2_firstAlike_21 3 rfl rfl ?_
        refine g_land C dX2_firstAlike_22 (v := (((eF es i) ^^^ f) &&& mk)) rfl ?_
        refine g_lconst C dX2_firstAlike_23 (v := 0) (by decide) ?_
        refine g_lcmp C dX2_firstAlike_24 ?_
        refine g_if_ne C dX2_firstAlike_25 (tgt := 31) (by decide) (fun h25 => ?_) (fun h25 => ?_)
        · skip
          refine g_iinc C dX2_firstAlike_31 0 rfl (v := (nI (i + 1))) (nI_1 i) (by decide) (lv' := [(5, .int (nI (i + 1))), (0, .ref k0), (1, .long f), (3, .long mk)]) rfl ?_
          refine g_goto C dX2_firstAlike_34 (tgt := 3) (by decide) ?_
          exact ih3 (i + 1) (by omega) (by omega) (fun j h => (Nat.lt_or_ge j i).elim (hj j) (fun q => by rw [show j = i by omega]; exact lg_1 h25))
        · skip
          refine g_iload C dX2_firstAlike_28 0 rfl ?_
          exact hR _ _ _ _ dX2_firstAlike_30 (Or.inl ⟨i, by omega, rfl, lg_0 h25, hj⟩)
  exact L3 _ 0 (Nat.lt_succ_self _) (by omega) (fun j h => absurd h (Nat.not_lt_zero j))

abbrev rm_t_X2_firstNearest : Room := ({ frames := 2, cells := 0, slots := 0, locals := 46 } : Room)
set_option maxHeartbeats 4000000 in
set_option maxRecDepth 100000 in
theorem t_X2_firstNearest (l : Launch) (D : va_G) (ty : g_T3) (k0 kf ko ka kb kt kl kp : Nat) (es : List Ent) (fF : Nat → Int64) (oF aF bF tF sF pF : Nat → Int32) (hw : rowOk es fF oF aF bF sF) (f : Int64) : g_P l yX2_firstNearest wsX2_firstNearest rm_t_X2_firstNearest D ty g_X0 [.ref k0, .long f] [(k0, .inr (1, [.int (nI es.length), .ref kf, .ref ko, .ref ka, .ref kb, .ref kt, .ref kl, .ref kp])), (kf, .inl (ty.2.1, 2000, .inr (.inl fF)))] (g_pi (fun r => r = (nrN (fun j => lbc (dfF (eF es j) f)) es.length).1)) := by
  refine g_ofPi (cc := cX2_firstNearest) (nL := 7) (own := RX2) (by decide) rfl rfl g_X0_ok (Nat.le_of_ble_eq_true rfl) ?_
  intro p e s m args below meth c Q C hX hR
  refine g_lv (lv' := [(0, .ref k0), (1, .long f)]) [0, 1] rfl ?_
  have hl0 := hw.2.2.2
  refine g_iconst C dX2_firstNearest_0 (v := (-1)) (by decide) ?_
  refine g_istore_n C dX2_firstNearest_1 rfl (by decide) (lv' := [(3, .int (-1)), (0, .ref k0), (1, .long f)]) rfl ?_
  refine g_bipush C dX2_firstNearest_2 (v := (nI 17)) (by decide) ?_
  refine g_istore C dX2_firstNearest_4 (by decide) (lv' := [(4, .int (nI 17)), (3, .int (-1)), (0, .ref k0), (1, .long f)]) rfl ?_
  refine g_iconst C dX2_firstNearest_6 (v := (nI 0)) (by decide) ?_
  refine g_istore C dX2_firstNearest_7 (by decide) (lv' := [(5, .int (nI 0)), (4, .int (nI 17)), (3, .int (-1)), (0, .ref k0), (1, .long f)]) rfl ?_
  have L9 : ∀ (n9 : Nat) (i : Nat) (v u : Int32), es.length - i < n9 → (i ≤ es.length) → (v = (nrN (fun j => lbc (dfF (eF es j) f)) i).1) → (u = (nrN (fun j => lbc (dfF (eF es j) f)) i).2) → gG (g_IP D s [(k0, .inr (1, [.int (nI es.length), .ref kf, .ref ko, .ref ka, .ref kb, .ref kt, .ref kl, .ref kp])), (kf, .inl (ty.2.1, 2000, .inr (.inl fF)))]) p l e rm_t_X2_firstNearest s m args below meth c Q 7 0 0 9 [(5, .int (nI i)), (4, .int u), (3, .int v), (0, .ref k0), (1, .long f)] [] [(k0, .inr (1, [.int (nI es.length), .ref kf, .ref ko, .ref ka, .ref kb, .ref kt, .ref kl, .ref kp])), (kf, .inl (ty.2.1, 2000, .inr (.inl fF)))] := by
    intro n9
    induction n9 with
    | zero => intro i v u hn; exact absurd hn (Nat.not_lt_zero _)
    | succ n9 ih9 =>
      intro i v u hn9 hi hv hu
      refine g_iload C dX2_firstNearest_9 0 rfl ?_
      refine g_aload_n C dX2_firstNearest_11 3 rfl rfl ?_
      refine g_get C 0 rfl rfl 0 (by decide) (fun _ h => (List.mem_cons_of_mem _ (List.mem_append_right _ h))) 1 rfl rfl rfl dX2_firstNearest_12 ?_
      refine g_icmp_geN C dX2_firstNearest_15 (tgt := 51) (by decide) (by omega) (by omega) (fun h15 => ?_) (fun h15 => ?_)
      · skip
        have hie : i = es.length := by omega
        refine g_iload_n C dX2_firstNearest_51 2 rfl rfl ?_
        exact hR _ _ _ _ dX2_firstNearest_52 (by rw [hv, hie])
      · skip
        refine g_aload_n C dX2_firstNearest_18 3 rfl rfl ?_
        refine g_get C 0 rfl rfl 1 (by decide) (fun _ h => (List.mem_cons_of_mem _ (List.mem_append_right _ h))) 2 rfl rfl rfl dX2_firstNearest_19 ?_
        refine g_iload C dX2_firstNearest_22 0 rfl ?_
        refine g_lald C (v := (eF es i)) 1 rfl (by omega) (by omega) (hw.1 i (by omega)).1 dX2_firstNearest_24 ?_
        refine g_lload_n C dX2_firstNearest_25 4 rfl rfl ?_
        refine g_callPS C ⟨g_X0_ok, trivial⟩ (t_X0_countDifferences l D ty (eF es i) f) rfl gX2_firstNearest_X0_countDifferences 2 (by decide +kernel) rfl ⟨rfl, rfl⟩ ⟨Nat.le_of_ble_eq_true rfl, Nat.le_of_ble_eq_true rfl⟩ (rest := []) [] rfl (Nat.le_of_ble_eq_true rfl) dX2_firstNearest_26 ⟨Nat.le_of_ble_eq_true rfl, Nat.le_of_ble_eq_true rfl⟩ rfl (g_ki (fun r hr => ?_))
        subst hr
        refine g_istore C dX2_firstNearest_29 (by decide) (lv' := [(6, .int (lbc (dfF (eF es i) f))), (5, .int (nI i)), (4, .int u), (3, .int v), (0, .ref k0), (1, .long f)]) rfl ?_
        refine g_iload C dX2_firstNearest_31 0 rfl ?_
        refine g_iload C dX2_firstNearest_33 2 rfl ?_
        refine g_icmp_ge C dX2_firstNearest_35 (tgt := 45) (by decide) (fun h35 => ?_) (fun h35 => ?_)
        · skip
          refine g_iinc C dX2_firstNearest_45 1 rfl (v := (nI (i + 1))) (nI_1 i) (by decide) (lv' := [(5, .int (nI (i + 1))), (6, .int (lbc (dfF (eF es i) f))), (4, .int u), (3, .int v), (0, .ref k0), (1, .long f)]) rfl ?_
          refine g_goto C dX2_firstNearest_48 (tgt := 9) (by decide) ?_
          refine g_lv [0, 2, 3, 4, 5] rfl ?_
          exact ih9 (i + 1) _ _ (by omega) (by omega) (by first | (rw [nrN_1 (by rw [← hu]; exact h35)]) | (rw [nrN_0 (by rw [← hu]; exact h35)]; exact hv)) (by first | (rw [nrN_1 (by rw [← hu]; exact h35)]) | (rw [nrN_0 (by rw [← hu]; exact h35)]; exact hu))
        · skip
          refine g_iload C dX2_firstNearest_38 0 rfl ?_
          refine g_istore C dX2_firstNearest_40 (by decide) (lv' := [(4, .int (lbc (dfF (eF es i) f))), (6, .int (lbc (dfF (eF es i) f))), (5, .int (nI i)), (3, .int v), (0, .ref k0), (1, .long f)]) rfl ?_
          refine g_iload C dX2_firstNearest_42 2 rfl ?_
          refine g_istore_n C dX2_firstNearest_44 rfl (by decide) (lv' := [(3, .int (nI i)), (4, .int (lbc (dfF (eF es i) f))), (6, .int (lbc (dfF (eF es i) f))), (5, .int (nI i)), (0, .ref k0), (1, .long f)]) rfl ?_
          refine g_iinc C dX2_firstNearest_45 3 rfl (v := (nI (i + 1))) (nI_1 i) (by decide) (lv' := [(5, .int (nI (i + 1))), (3, .int (nI i)), (4, .int (lbc (dfF (eF es i) f))), (6, .int (lbc (dfF (eF es i) f))), (0, .ref k0), (1, .long f)]) rfl ?_
          refine g_goto C dX2_firstNearest_48 (tgt := 9) (by decide) ?_
          refine g_lv [0, 2, 1, 4, 5] rfl ?_
          exact ih9 (i + 1) _ _ (by omega) (by omega) (by first | (rw [nrN_1 (by rw [← hu]; exact h35)]) | (rw [nrN_0 (by rw [← hu]; exact h35)]; exact hv)) (by first | (rw [nrN_1 (by rw [← hu]; exact h35)]) | (rw [nrN_0 (by rw [← hu]; exact h35)]; exact hu))
  exact L9 _ 0 _ _ (Nat.lt_succ_self _) (by omega) rfl rfl

abbrev rm_t_X2_countOfCost : Room := ({ frames := 0, cells := 0, slots := 0, locals := 0 } : Room)
set_option maxHeartbeats 4000000 in
set_option maxRecDepth 100000 in
theorem t_X2_countOfCost (l : Launch) (D : va_G) (ty : g_T3) (k0 kf ko ka kb kt kl kp : Nat) (n : Nat) (hn : n ≤ 2000) (tF : Nat → Int32) (st : Nat → Nat) (ht : ∀ j, j < 8 → tF j = nI (st j)) (cv : Nat) (hc : cv ≤ 6) : g_P l yX2_countOfCost wsX2_countOfCost rm_t_X2_countOfCost D ty g_X0 [.ref k0, .int (nI cv)] [(k0, .inr (1, [.int (nI n), .ref kf, .ref ko, .ref ka, .ref kb, .ref kt, .ref kl, .ref kp])), (kt, .inl (ty.1, 8, .inl tF))] (g_pi (fun r => r = nI (st (cv + 1)) - nI (st cv))) := by
  refine g_ofPi (cc := cX2_countOfCost) (nL := 2) (own := RX2) (by decide) rfl rfl g_X0_ok (Nat.le_of_ble_eq_true rfl) ?_
  intro p e s m args below meth c Q C hX hR
  refine g_lv (lv' := [(0, .ref k0), (1, .int (nI cv))]) [0, 1] rfl ?_
  refine g_aload_n C dX2_countOfCost_0 0 rfl rfl ?_
  refine g_get C 0 rfl rfl 5 (by decide) (fun _ h => (List.mem_cons_of_mem _ (List.mem_append_right _ h))) 1 rfl rfl rfl dX2_countOfCost_1 ?_
  refine g_iload_n C dX2_countOfCost_4 1 rfl rfl ?_
  refine g_iconst C dX2_countOfCost_5 (v := (nI 1)) (by decide) ?_
  refine g_iadd C dX2_countOfCost_6 (v := (nI (cv + 1))) (nI_add _ _) ?_
  refine g_iald C (v := (nI (st (cv + 1)))) 1 rfl (by omega) (by omega) (ht _ (by omega)) dX2_countOfCost_7 ?_
  refine g_aload_n C dX2_countOfCost_8 0 rfl rfl ?_
  refine g_get C 0 rfl rfl 5 (by decide) (fun _ h => (List.mem_cons_of_mem _ (List.mem_append_right _ h))) 1 rfl rfl rfl dX2_countOfCost_9 ?_
  refine g_iload_n C dX2_countOfCost_12 1 rfl rfl ?_
  refine g_iald C (v := (nI (st cv))) 1 rfl (by omega) (by omega) (ht _ (by omega)) dX2_countOfCost_13 ?_
  refine g_isub C dX2_countOfCost_14 (v := ((nI (st (cv + 1))) - (nI (st cv)))) rfl ?_
  exact hR _ _ _ _ dX2_countOfCost_15 (rfl)

abbrev rm_t_X2_sumOfCosts : Room := ({ frames := 1, cells := 0, slots := 0, locals := 21 } : Room)
set_option maxHeartbeats 4000000 in
set_option maxRecDepth 100000 in
theorem t_X2_sumOfCosts (l : Launch) (D : va_G) (ty : g_T3) (k0 kf ko ka kb kt kl kp : Nat) (n : Nat) (hn : n ≤ 2000) (tF : Nat → Int32) (st : Nat → Nat) (ht : ∀ j, j < 8 → tF j = nI (st j))  : g_P l yX2_sumOfCosts wsX2_sumOfCosts rm_t_X2_sumOfCosts D ty g_X0 [.ref k0] [(k0, .inr (1, [.int (nI n), .ref kf, .ref ko, .ref ka, .ref kb, .ref kt, .ref kl, .ref kp])), (kt, .inl (ty.1, 8, .inl tF))] (g_pi (fun r => r = suN st 7)) := by
  refine g_ofPi (cc := cX2_sumOfCosts) (nL := 3) (own := RX2) (by decide) rfl rfl g_X0_ok (Nat.le_of_ble_eq_true rfl) ?_
  intro p e s m args below meth c Q C hX hR
  refine g_lv (lv' := [(0, .ref k0)]) [0] rfl ?_
  refine g_iconst C dX2_sumOfCosts_0 (v := (nI 0)) (by decide) ?_
  refine g_istore_n C dX2_sumOfCosts_1 rfl (by decide) (lv' := [(1, .int (nI 0)), (0, .ref k0)]) rfl ?_
  refine g_iconst C dX2_sumOfCosts_2 (v := (nI 0)) (by decide) ?_
  refine g_istore_n C dX2_sumOfCosts_3 rfl (by decide) (lv' := [(2, .int (nI 0)), (1, .int (nI 0)), (0, .ref k0)]) rfl ?_
  have L4 : ∀ (n9 : Nat) (cq : Nat), 7 - cq < n9 → (cq ≤ 7) → gG (g_IP D s [(k0, .inr (1, [.int (nI n), .ref kf, .ref ko, .ref ka, .ref kb, .ref kt, .ref kl, .ref kp])), (kt, .inl (ty.1, 8, .inl tF))]) p l e rm_t_X2_sumOfCosts s m args below meth c Q 3 0 0 4 [(2, .int (nI cq)), (1, .int (suN st cq)), (0, .ref k0)] [] [(k0, .inr (1, [.int (nI n), .ref kf, .ref ko, .ref ka, .ref kb, .ref kt, .ref kl, .ref kp])), (kt, .inl (ty.1, 8, .inl tF))] := by
    intro n9
    induction n9 with
    | zero => intro cq hn; exact absurd hn (Nat.not_lt_zero _)
    | succ n9 ih4 =>
      intro cq hn4 hc
      refine g_iload_n C dX2_sumOfCosts_4 0 rfl rfl ?_
      refine g_bipush C dX2_sumOfCosts_5 (v := (nI 6)) (by decide) ?_
      refine g_icmp_gtN C dX2_sumOfCosts_7 (tgt := 26) (by decide) (by omega) (by omega) (fun h7 => ?_) (fun h7 => ?_)
      · skip
        obtain rfl : cq = 7 := by omega
        refine g_iload_n C dX2_sumOfCosts_26 1 rfl rfl ?_
        exact hR _ _ _ _ dX2_sumOfCosts_27 (rfl)
      · skip
        refine g_iload_n C dX2_sumOfCosts_10 1 rfl rfl ?_
        refine g_iload_n C dX2_sumOfCosts_11 0 rfl rfl ?_
        refine g_aload_n C dX2_sumOfCosts_12 2 rfl rfl ?_
        refine g_iload_n C dX2_sumOfCosts_13 0 rfl rfl ?_
        refine g_callPV C ⟨g_X0_ok, trivial⟩ (t_X2_countOfCost l D ty k0 kf ko ka kb kt kl kp n hn tF st ht cq (by omega)) rfl gX2_sumOfCosts_X2_countOfCost 1 (by decide +kernel) rfl ⟨rfl, rfl⟩ ⟨Nat.le_of_ble_eq_true rfl, Nat.le_of_ble_eq_true rfl⟩ (rest := [.int (nI cq), .int (suN st cq)]) (q0 := 0) rfl rfl [0, 1] rfl (Nat.le_of_ble_eq_true rfl) dX2_sumOfCosts_14 ⟨Nat.le_of_ble_eq_true rfl, Nat.le_of_ble_eq_true rfl⟩ rfl (g_ki (fun r hr => ?_))
        subst hr
        refine g_imul C dX2_sumOfCosts_17 (v := ((nI cq) * (nI (st (cq + 1)) - nI (st cq)))) rfl ?_
        refine g_iadd C dX2_sumOfCosts_18 (v := (suN st (cq + 1))) rfl ?_
        refine g_istore_n C dX2_sumOfCosts_19 rfl (by decide) (lv' := [(1, .int (suN st (cq + 1))), (2, .int (nI cq)), (0, .ref k0)]) rfl ?_
        refine g_iinc C dX2_sumOfCosts_20 1 rfl (v := (nI (cq + 1))) (nI_1 cq) (by decide) (lv' := [(2, .int (nI (cq + 1))), (1, .int (suN st (cq + 1))), (0, .ref k0)]) rfl ?_
        refine g_goto C dX2_sumOfCosts_23 (tgt := 4) (by decide) ?_
        exact ih4 (cq + 1) (by omega) (by omega)
  exact L4 _ 0 (Nat.lt_succ_self _) (by omega)

abbrev rm_t_X2_costOf : Room := ({ frames := 0, cells := 0, slots := 0, locals := 0 } : Room)
set_option maxHeartbeats 4000000 in
set_option maxRecDepth 100000 in
theorem t_X2_costOf (l : Launch) (D : va_G) (ty : g_T3) (k0 kf ko ka kb kt kl kp : Nat) (es : List Ent) (tF : Nat → Int32) (st : Nat → Nat) (ht : ∀ j, j < 8 → tF j = nI (st j)) (hb : ∀ j, j ≤ 7 → st j < 2 ^ 31) (hco : coOk es st) (i : Nat) (hi : i < es.length) (hl : es.length ≤ 2000) : g_P l yX2_costOf wsX2_costOf rm_t_X2_costOf D ty g_X0 [.ref k0, .int (nI i)] [(k0, .inr (1, [.int (nI es.length), .ref kf, .ref ko, .ref ka, .ref kb, .ref kt, .ref kl, .ref kp])), (kt, .inl (ty.1, 8, .inl tF))] (g_pi (fun r => r = nI (eC es i))) := by
  refine g_ofPi (cc := cX2_costOf) (nL := 3) (own := RX2) (by decide) rfl rfl g_X0_ok (Nat.le_of_ble_eq_true rfl) ?_
  intro p e s m args below meth c Q C hX hR
  refine g_lv (lv' := [(0, .ref k0), (1, .int (nI i))]) [0, 1] rfl ?_
  refine g_iconst C dX2_costOf_0 (v := (nI 0)) (by decide) ?_
  refine g_istore_n C dX2_costOf_1 rfl (by decide) (lv' := [(2, .int (nI 0)), (0, .ref k0), (1, .int (nI i))]) rfl ?_
  have L2 : ∀ (n9 : Nat) (cq : Nat), 7 - cq < n9 → (cq ≤ eC es i) → gG (g_IP D s [(k0, .inr (1, [.int (nI es.length), .ref kf, .ref ko, .ref ka, .ref kb, .ref kt, .ref kl, .ref kp])), (kt, .inl (ty.1, 8, .inl tF))]) p l e rm_t_X2_costOf s m args below meth c Q 3 0 0 2 [(2, .int (nI cq)), (0, .ref k0), (1, .int (nI i))] [] [(k0, .inr (1, [.int (nI es.length), .ref kf, .ref ko, .ref ka, .ref kb, .ref kt, .ref kl, .ref kp])), (kt, .inl (ty.1, 8, .inl tF))] := by
    intro n9
    induction n9 with
    | zero => intro cq hn; exact absurd hn (Nat.not_lt_zero _)
    | succ n9 ih2 =>
      intro cq hn2 hc
      obtain ⟨hi1, hi2, hi3⟩ := hco.1 i hi
      refine g_iload_n C dX2_costOf_2 0 rfl rfl ?_
      refine g_bipush C dX2_costOf_3 (v := (nI 6)) (by decide) ?_
      refine g_icmp_geN C dX2_costOf_5 (tgt := 26) (by decide) (by omega) (by omega) (fun h5 => ?_) (fun h5 => ?_)
      · skip
        have hE : cq = eC es i := by omega
        refine g_iload_n C dX2_costOf_26 0 rfl rfl ?_
        exact hR _ _ _ _ dX2_costOf_27 (by rw [hE])
      · skip
        refine g_aload_n C dX2_costOf_8 1 rfl rfl ?_
        refine g_get C 0 rfl rfl 5 (by decide) (fun _ h => (List.mem_cons_of_mem _ (List.mem_append_right _ h))) 1 rfl rfl rfl dX2_costOf_9 ?_
        refine g_iload_n C dX2_costOf_12 0 rfl rfl ?_
        refine g_iconst C dX2_costOf_13 (v := (nI 1)) (by decide) ?_
        refine g_iadd C dX2_costOf_14 (v := (nI (cq + 1))) (nI_add _ _) ?_
        refine g_iald C (v := (nI (st (cq + 1)))) 1 rfl (by omega) (by omega) (ht _ (by omega)) dX2_costOf_15 ?_
        refine g_iload_n C dX2_costOf_16 2 rfl rfl ?_
        refine g_icmp_gtN C dX2_costOf_17 (tgt := 26) (by decide) (hb _ (by omega)) (by omega) (fun h17 => ?_) (fun h17 => ?_)
        · skip
          have hE : cq = eC es i := by
            rcases Nat.lt_or_ge cq (eC es i) with q | q
            · have := hco.2 (cq + 1) (eC es i) (by omega) (by omega); omega
            · omega
          refine g_iload_n C dX2_costOf_26 0 rfl rfl ?_
          exact hR _ _ _ _ dX2_costOf_27 (by rw [hE])
        · skip
          have hlt : cq < eC es i := by
            rcases Nat.lt_or_ge cq (eC es i) with q | q
            · exact q
            · have hq : cq = eC es i := by omega
              subst hq; have := hi3 (by omega); omega
          refine g_iinc C dX2_costOf_20 0 rfl (v := (nI (cq + 1))) (nI_1 cq) (by decide) (lv' := [(2, .int (nI (cq + 1))), (0, .ref k0), (1, .int (nI i))]) rfl ?_
          refine g_goto C dX2_costOf_23 (tgt := 2) (by decide) ?_
          exact ih2 (cq + 1) (by omega) (by omega)
  exact L2 _ 0 (Nat.lt_succ_self _) (Nat.zero_le _)



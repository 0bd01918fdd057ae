abbrev rm_t_X4_here : Room := ({ frames := 0, cells := 0, slots := 0, locals := 0 } : Room)
set_option maxHeartbeats 4000000 in
set_option maxRecDepth 100000 in
theorem t_X4_here (l : Launch) (D : va_G) (ty : g_T3) (t0 tz tl : Nat) (lf : Int64) (tb : Nat → Nat) (hb : ∀ i, tb i < 256) (htl : tl ≤ 300) (pq : Nat) (hp : pq ≤ 400) (er : Int32) : g_P l yX4_here wsX4_here rm_t_X4_here D ty g_X0 [.ref t0] [(t0, .inr (3, [.int (nI tl), .long lf, .ref tz, .int (nI pq), .int er])), (tz, .inl (ty.1, 300, .inl (zN tb)))] (g_pi (fun r => r = hre tb tl pq)) := by
  refine g_ofPi (cc := cX4_here) (nL := 1) (own := RX4) (by decide) rfl rfl g_X0_ok (Nat.le_of_ble_eq_true rfl) ?_
  intro p e s m args below meth c Q C hX hR
  refine g_lv (lv' := [(0, .ref t0)]) [0] rfl ?_
  refine g_aload_n C dX4_here_0 0 rfl rfl ?_
  refine g_get C 0 rfl rfl 3 (by decide) (fun _ h => (List.mem_cons_of_mem _ (List.mem_append_right _ h))) 1 rfl rfl rfl dX4_here_1 ?_
  refine g_aload_n C dX4_here_4 0 rfl rfl ?_
  refine g_get C 0 rfl rfl 0 (by decide) (fun _ h => (List.mem_cons_of_mem _ (List.mem_append_right _ h))) 2 rfl rfl rfl dX4_here_5 ?_
  refine g_icmp_geN C dX4_here_8 (tgt := 33) (by decide) (by omega) (by omega) (fun h8 => ?_) (fun h8 => ?_)
  · skip
    have hE : hre tb tl pq = -1 := hre_f (by omega)
    refine g_iconst C dX4_here_33 (v := (-1)) (by decide) ?_
    exact hR _ _ _ _ dX4_here_34 (hE.symm)
  · skip
    have hE : hre tb tl pq = nI (tb pq) := hre_t h8
    refine g_aload_n C dX4_here_11 0 rfl rfl ?_
    refine g_get C 0 rfl rfl 3 (by decide) (fun _ h => (List.mem_cons_of_mem _ (List.mem_append_right _ h))) 1 rfl rfl rfl dX4_here_12 ?_
    refine g_sipush C dX4_here_15 (v := (nI 300)) (by decide) ?_
    refine g_icmp_geN C dX4_here_18 (tgt := 33) (by decide) (by omega) (by omega) (fun h18 => ?_) (fun h18 => ?_)
    · skip
      exact absurd h18 (by omega)
    · skip
      refine g_aload_n C dX4_here_21 0 rfl rfl ?_
      refine g_get C 0 rfl rfl 2 (by decide) (fun _ h => (List.mem_cons_of_mem _ (List.mem_append_right _ h))) 3 rfl rfl rfl dX4_here_22 ?_
      refine g_aload_n C dX4_here_25 0 rfl rfl ?_
      refine g_get C 0 rfl rfl 3 (by decide) (fun _ h => (List.mem_cons_of_mem _ (List.mem_append_right _ h))) 1 rfl rfl rfl dX4_here_26 ?_
      refine g_iald C (v := (nI (tb pq))) 1 rfl (by omega) (by omega) rfl dX4_here_29 ?_
      refine g_goto C dX4_here_30 (tgt := 34) (by decide) ?_
      exact hR _ _ _ _ dX4_here_34 (hE.symm)

abbrev rm_t_X4_next : Room := ({ frames := 1, cells := 0, slots := 0, locals := 20 } : Room)
set_option maxHeartbeats 4000000 in
set_option maxRecDepth 100000 in
theorem t_X4_next (l : Launch) (D : va_G) (ty : g_T3) (t0 tz tl : Nat) (lf : Int64) (tb : Nat → Nat) (hb : ∀ i, tb i < 256) (htl : tl ≤ 300) (pq : Nat) (hp : pq ≤ tl) (er : Int32) : g_U l yX4_next wsX4_next rm_t_X4_next D ty g_X0 [.ref t0] [(t0, .inr (3, [.int (nI tl), .long lf, .ref tz, .int (nI pq), .int er])), (tz, .inl (ty.1, 300, .inl (zN tb)))] 0 0 (g_ui (fun r w => r = hre tb tl (nxt tb tl pq) ∧ w = [(t0, .inr (3, [.int (nI tl), .long lf, .ref tz, .int (nI (nxt tb tl pq)), .int er])), (tz, .inl (ty.1, 300, .inl (zN tb)))])) := by
  refine g_ofUi (cc := cX4_next) (nL := 1) (own := RX4) (by decide) rfl rfl g_X0_ok (Nat.le_of_ble_eq_true rfl) ?_
  intro p e s m args below meth c Q A C hA hX hin hR
  refine g_lv (lv' := [(0, .ref t0)]) [0] rfl ?_
  have L0 : ∀ (n9 : Nat) (q : Nat), tl - q < n9 → (q ≤ tl) → (nxt tb tl q = nxt tb tl pq) → gG (g_IU A D s) p l e rm_t_X4_next s m args below meth c Q 1 0 0 0 [(0, .ref t0)] [] [(t0, .inr (3, [.int (nI tl), .long lf, .ref tz, .int (nI q), .int er])), (tz, .inl (ty.1, 300, .inl (zN tb)))] := by
    intro n9
    induction n9 with
    | zero => intro q hn; exact absurd hn (Nat.not_lt_zero _)
    | succ n9 ih0 =>
      intro q hn0 hq hn
      refine g_aload_n C dX4_next_0 0 rfl rfl ?_
      refine g_get C 0 rfl rfl 3 (by decide) (fun _ h => (List.mem_cons_of_mem _ (List.mem_append_right _ h))) 1 rfl rfl rfl dX4_next_1 ?_
      refine g_aload_n C dX4_next_4 0 rfl rfl ?_
      refine g_get C 0 rfl rfl 0 (by decide) (fun _ h => (List.mem_cons_of_mem _ (List.mem_append_right _ h))) 2 rfl rfl rfl dX4_next_5 ?_
      refine g_icmp_geN C dX4_next_8 (tgt := 33) (by decide) (by omega) (by omega) (fun h8 => ?_) (fun h8 => ?_)
      · skip
        have hE : nxt tb tl pq = q := by rw [← hn]; exact nxt_e h8
        refine g_aload_n C dX4_next_33 0 rfl rfl ?_
        refine g_callPV C ⟨g_X0_ok, trivial⟩ (t_X4_here l D ty t0 tz tl lf tb hb htl q (by omega) er) rfl gX4_next_X4_here 0 (by decide +kernel) rfl ⟨rfl, rfl⟩ ⟨Nat.le_of_ble_eq_true rfl, Nat.le_of_ble_eq_true rfl⟩ (rest := []) (q0 := 0) rfl rfl [0, 1] rfl (Nat.le_of_ble_eq_true rfl) dX4_next_34 ⟨Nat.le_of_ble_eq_true rfl, Nat.le_of_ble_eq_true rfl⟩ rfl (g_ki (fun r hr => ?_))
        subst hr
        refine hR _ _ _ _ _ _ dX4_next_37 ?_ (by omega) (by omega)
        rw [hE]; exact ⟨rfl, rfl⟩
      · skip
        refine g_aload_n C dX4_next_11 0 rfl rfl ?_
        refine g_callPV C ⟨g_X0_ok, trivial⟩ (t_X4_here l D ty t0 tz tl lf tb hb htl q (by omega) er) rfl gX4_next_X4_here 0 (by decide +kernel) rfl ⟨rfl, rfl⟩ ⟨Nat.le_of_ble_eq_true rfl, Nat.le_of_ble_eq_true rfl⟩ (rest := []) (q0 := 0) rfl rfl [0, 1] rfl (Nat.le_of_ble_eq_true rfl) dX4_next_12 ⟨Nat.le_of_ble_eq_true rfl, Nat.le_of_ble_eq_true rfl⟩ rfl (g_ki (fun r hr => ?_))
        subst hr
        refine g_bipush C dX4_next_15 (v := (nI 32)) (by decide) ?_
        refine g_icmp_ne C dX4_next_17 (tgt := 33) (by decide) (fun h17 => ?_) (fun h17 => ?_)
        · skip
          rw [nI_toInt (by omega)] at h17
          have hE : nxt tb tl pq = q := by
            rw [← hn]
            refine nxt_0 h8 (fun z => h17 ?_)
            rw [hre_t h8, z, nI_toInt (by decide)]
          refine g_aload_n C dX4_next_33 0 rfl rfl ?_
          refine g_callPV C ⟨g_X0_ok, trivial⟩ (t_X4_here l D ty t0 tz tl lf tb hb htl q (by omega) er) rfl gX4_next_X4_here 0 (by decide +kernel) rfl ⟨rfl, rfl⟩ ⟨Nat.le_of_ble_eq_true rfl, Nat.le_of_ble_eq_true rfl⟩ (rest := []) (q0 := 0) rfl rfl [0, 1] rfl (Nat.le_of_ble_eq_true rfl) dX4_next_34 ⟨Nat.le_of_ble_eq_true rfl, Nat.le_of_ble_eq_true rfl⟩ rfl (g_ki (fun r hr => ?_))
          subst hr
          refine hR _ _ _ _ _ _ dX4_next_37 ?_ (by omega) (by omega)
          rw [hE]; exact ⟨rfl, rfl⟩
        · skip
          rw [nI_toInt (by omega)] at h17
          have hq32 : tb q = 32 := by
            have hbq := hb q
            rw [hre_t h8, nI_toInt (by omega)] at h17
            omega
          refine g_aload_n C dX4_next_20 0 rfl rfl ?_
          refine g_dup C dX4_next_21 rfl ?_
          refine g_get C 0 rfl rfl 3 (by decide) (fun _ h => (List.mem_cons_of_mem _ (List.mem_append_right _ h))) 1 rfl rfl rfl dX4_next_22 ?_
          refine g_iconst C dX4_next_25 (v := (nI 1)) (by decide) ?_
          refine g_iadd C dX4_next_26 (v := (nI (q + 1))) (nI_add _ _) ?_
          refine g_put C 0 rfl rfl 3 (by decide) (fun _ h => (List.mem_cons_of_mem _ (List.mem_append_right _ h))) 1 rfl rfl tyX4 tyX4_ok nmX4 rfl rfl rfl rfl (Nat.le_of_ble_eq_true rfl) (ws' := [(t0, .inr (3, [.int (nI tl), .long lf, .ref tz, .int (nI (q + 1)), .int er])), (tz, .inl (ty.1, 300, .inl (zN tb)))]) rfl dX4_next_27 ?_
          refine g_goto C dX4_next_30 (tgt := 0) (by decide) ?_
          exact ih0 (q + 1) (by omega) (by omega) (by rw [← hn]; exact (nxt_1 h8 hq32).symm)
  exact L0 _ pq (Nat.lt_succ_self _) hp rfl

abbrev rm_t_X4_hasError : Room := ({ frames := 0, cells := 0, slots := 0, locals := 0 } : Room)
set_option maxHeartbeats 4000000 in
set_option maxRecDepth 100000 in
theorem t_X4_hasError (l : Launch) (D : va_G) (ty : g_T3) (t0 tz : Nat) (f0 : Int32) (f1 : Int64) (f3 er : Int32) : g_P l yX4_hasError wsX4_hasError rm_t_X4_hasError D ty g_X0 [.ref t0] [(t0, .inr (3, [.int f0, .long f1, .ref tz, .int f3, .int er]))] (g_pi (fun r => r = nI (heB er).toNat)) := by
  refine g_ofPz (cc := cX4_hasError) (nL := 1) (own := RX4) (by decide) rfl rfl g_X0_ok (Nat.le_of_ble_eq_true rfl) ?_
  intro p e s m args below meth c Q C hX hR
  refine g_lv (lv' := [(0, .ref t0)]) [0] rfl ?_
  refine g_aload_n C dX4_hasError_0 0 rfl rfl ?_
  refine g_get C 0 rfl rfl 4 (by decide) (fun _ h => (List.mem_cons_of_mem _ (List.mem_append_right _ h))) 1 rfl rfl rfl dX4_hasError_1 ?_
  refine g_iconst C dX4_hasError_4 (v := (-1)) (by decide) ?_
  refine g_icmp_eq C dX4_hasError_5 (tgt := 12) (by decide) (fun h5 => ?_) (fun h5 => ?_)
  · skip
    have hf : heB er = false := deB_f (fun z => z (t_eq.mpr h5))
    refine g_iconst C dX4_hasError_12 (v := (nI 0)) (by decide) ?_
    refine hR _ _ _ _ rfl dX4_hasError_13 ?_
    first | exact n1_t hf | exact n0_f hf
  · skip
    have hf : heB er = true := deB_t (fun z => h5 (t_eq.mp z))
    refine g_iconst C dX4_hasError_8 (v := (nI 1)) (by decide) ?_
    refine g_goto C dX4_hasError_9 (tgt := 13) (by decide) ?_
    refine hR _ _ _ _ rfl dX4_hasError_13 ?_
    first | exact n1_t hf | exact n0_f hf

abbrev rm_t_X4_failAt : Room := ({ frames := 0, cells := 0, slots := 0, locals := 0 } : Room)
set_option maxHeartbeats 4000000 in
set_option maxRecDepth 100000 in
theorem t_X4_failAt (l : Launch) (D : va_G) (ty : g_T3) (t0 tz : Nat) (f0 : Int32) (f1 : Int64) (f3 er wh : Int32) : g_U l yX4_failAt wsX4_failAt rm_t_X4_failAt D ty g_X0 [.ref t0, .int wh] [(t0, .inr (3, [.int f0, .long f1, .ref tz, .int f3, .int er]))] 0 0 (g_ul (fun r w => r = 0 ∧ w = [(t0, .inr (3, [.int f0, .long f1, .ref tz, .int f3, .int wh]))])) := by
  refine g_ofUl (cc := cX4_failAt) (nL := 2) (own := RX4) (by decide) rfl rfl g_X0_ok (Nat.le_of_ble_eq_true rfl) ?_
  intro p e s m args below meth c Q A C hA hX hin hR
  refine g_lv (lv' := [(0, .ref t0), (1, .int wh)]) [0, 1] rfl ?_
  refine g_aload_n C dX4_failAt_0 0 rfl rfl ?_
  refine g_iload_n C dX4_failAt_1 1 rfl rfl ?_
  refine g_put C 0 rfl rfl 4 (by decide) (fun _ h => (List.mem_cons_of_mem _ (List.mem_append_right _ h))) 1 rfl rfl tyX4 tyX4_ok nmX4 rfl rfl rfl rfl (Nat.le_of_ble_eq_true rfl) (ws' := [(t0, .inr (3, [.int f0, .long f1, .ref tz, .int f3, .int wh]))]) rfl dX4_failAt_2 ?_
  refine g_lconst C dX4_failAt_5 (v := 0) (by decide) ?_
  refine hR _ _ _ _ _ _ dX4_failAt_6 ?_ (by omega) (by omega)
  exact ⟨rfl, rfl⟩

abbrev rm_t_X4_operationOf : Room := ({ frames := 0, cells := 0, slots := 0, locals := 0 } : Room)
set_option maxHeartbeats 4000000 in
set_option maxRecDepth 100000 in
theorem t_X4_operationOf (l : Launch) (D : va_G) (ty : g_T3) (b : Int32) (lo hi : Nat) (hh : hi ≤ 10) (hl9 : lo ≤ hi) : g_P l yX4_operationOf wsX4_operationOf rm_t_X4_operationOf D ty g_XN [.int b, .int (nI lo), .int (nI hi)] [] (g_pi (fun r => r = opS b (hi - lo) lo)) := by
  refine g_ofPi (cc := cX4_operationOf) (nL := 4) (own := RX4) (by decide) rfl rfl g_XN_ok (Nat.le_of_ble_eq_true rfl) ?_
  intro p e s m args below meth c Q C hX hR
  refine g_lv (lv' := [(0, .int b), (1, .int (nI lo)), (2, .int (nI hi))]) [0, 1, 2] rfl ?_
  obtain ⟨tS, hZ, hT⟩ := hX.2.2.2.1
  refine g_iload_n C dX4_operationOf_0 1 rfl rfl ?_
  refine g_istore_n C dX4_operationOf_1 rfl (by decide) (lv' := [(3, .int (nI lo)), (0, .int b), (1, .int (nI lo)), (2, .int (nI hi))]) rfl ?_
  have L2 : ∀ (n9 : Nat) (o : Nat), hi - o < n9 → (o ≤ hi) → (opS b (hi - o) o = opS b (hi - lo) lo) → gG (g_IP D s []) p l e rm_t_X4_operationOf s m args below meth c Q 4 0 0 2 [(3, .int (nI o)), (0, .int b), (1, .int (nI lo)), (2, .int (nI hi))] [] [] := by
    intro n9
    induction n9 with
    | zero => intro o hn; exact absurd hn (Nat.not_lt_zero _)
    | succ n9 ih2 =>
      intro o hn2 ho hE
      refine g_iload_n C dX4_operationOf_2 0 rfl rfl ?_
      refine g_iload_n C dX4_operationOf_3 3 rfl rfl ?_
      refine g_icmp_geN C dX4_operationOf_4 (tgt := 30) (by decide) (by omega) (by omega) (fun h4 => ?_) (fun h4 => ?_)
      · skip
        have hR0 : opS b (hi - lo) lo = -1 := by rw [← hE, show hi - o = 0 by omega]; rfl
        refine g_iconst C dX4_operationOf_30 (v := (-1)) (by decide) ?_
        exact hR _ _ _ _ dX4_operationOf_31 (hR0.symm)
      · skip
        refine g_iload_n C dX4_operationOf_7 0 rfl rfl ?_
        refine g_bipush C dX4_operationOf_8 (v := (nI 10)) (by decide) ?_
        refine g_icmp_geN C dX4_operationOf_10 (tgt := 30) (by decide) (by omega) (by omega) (fun h10 => ?_) (fun h10 => ?_)
        · skip
          exact absurd h10 (by omega)
        · skip
          refine g_getsN C (host := RX5) (ref := RX5) hZ (hX.2.2.1 0 (by decide)) rfl dX4_operationOf_13 ?_
          refine g_iload_n C dX4_operationOf_16 0 rfl rfl ?_
          refine g_tc C hT (by omega) (by decide) rfl dX4_operationOf_17 ?_
          refine g_iload_n C dX4_operationOf_18 1 rfl rfl ?_
          refine g_icmp_ne C dX4_operationOf_19 (tgt := 24) (by decide) (fun h19 => ?_) (fun h19 => ?_)
          · skip
            refine g_iinc C dX4_operationOf_24 0 rfl (v := (nI (o + 1))) (nI_1 o) (by decide) (lv' := [(3, .int (nI (o + 1))), (0, .int b), (1, .int (nI lo)), (2, .int (nI hi))]) rfl ?_
            refine g_goto C dX4_operationOf_27 (tgt := 2) (by decide) ?_
            exact ih2 (o + 1) (by omega) (by omega) (by rw [← hE, show hi - o = (hi - (o + 1)) + 1 by omega]; exact (opS_0 (fun z => h19 (t_eq.mp z.symm))).symm)
          · skip
            refine g_iload_n C dX4_operationOf_22 0 rfl rfl ?_
            exact hR _ _ _ _ dX4_operationOf_23 (by rw [← hE, show hi - o = (hi - (o + 1)) + 1 by omega]; exact (opS_1 (t_eq.mpr h19).symm).symm)
  exact L2 _ lo (Nat.lt_succ_self _) hl9 rfl

abbrev rm_t_X4_append : Room := ({ frames := 0, cells := 0, slots := 0, locals := 0 } : Room)
set_option maxHeartbeats 4000000 in
set_option maxRecDepth 100000 in
theorem t_X4_append (l : Launch) (D : va_G) (ty : g_T3) (t0 tz tl : Nat) (lf : Int64) (tb : Nat → Nat) (hb : ∀ i, tb i < 256) (htl : tl ≤ 300) (hroom : tl + 4 ≤ 300) (pl er xv : Int32) : g_U l yX4_append wsX4_append rm_t_X4_append D ty g_X0 [.ref t0, .int xv] [(t0, .inr (3, [.int (nI tl), .long lf, .ref tz, .int pl, .int er])), (tz, .inl (ty.1, 300, .inl (zN tb)))] 0 0 (g_uv (fun w => w = [(t0, .inr (3, [.int (nI (tl + 4)), .long lf, .ref tz, .int pl, .int er])), (tz, .inl (ty.1, 300, .inl (zN (va_up (va_up (va_up (va_up tb tl (byN xv 24)) (tl + 1) (byN xv 16)) (tl + 2) (byN xv 8)) (tl + 3) (byN xv 0)))))])) := by
  refine g_ofUv (cc := cX4_append) (nL := 3) (own := RX4) (by decide) rfl rfl g_X0_ok (Nat.le_of_ble_eq_true rfl) ?_
  intro p e s m args below meth c Q A C hA hX hin hR
  refine g_lv (lv' := [(0, .ref t0), (1, .int xv)]) [0, 1] rfl ?_
  refine g_bipush C dX4_append_0 (v := (nI 24)) (by decide) ?_
  refine g_istore_n C dX4_append_2 rfl (by decide) (lv' := [(2, .int (nI 24)), (0, .ref t0), (1, .int xv)]) rfl ?_
  have L3 : ∀ (n9 : Nat) (k : Nat) (tb2 : Nat → Nat), 4 - k < n9 → (k ≤ 4) → (apB tb tl xv k = tb2) → gG (g_IU A D s) p l e rm_t_X4_append s m args below meth c Q 3 0 0 3 [(2, .int (nI 24 - nI (8 * k))), (0, .ref t0), (1, .int xv)] [] [(t0, .inr (3, [.int (nI (tl + k)), .long lf, .ref tz, .int pl, .int er])), (tz, .inl (ty.1, 300, .inl (zN tb2)))] := by
    intro n9
    induction n9 with
    | zero => intro k tb2 hn; exact absurd hn (Nat.not_lt_zero _)
    | succ n9 ih3 =>
      intro k tb2 hn3 hk ht
      refine g_iload_n C dX4_append_3 0 rfl rfl ?_
      have h24 : (nI 24 - nI (8 * k)).toInt = (24 : Int) - ((8 * k : Nat) : Int) := pk_sub_toInt (by decide) (by omega)
      refine g_if_lt C dX4_append_4 (tgt := 49) (by decide) (fun h4 => ?_) (fun h4 => ?_)
      · skip
        have hk4 : k = 4 := by omega
        refine hR _ _ _ _ _ dX4_append_49 ?_ (by omega) (by omega)
        subst hk4; rw [← ht]; rfl
      · skip
        have hk3 : k ≤ 3 := by omega
        rw [pk_sub (show 8 * k ≤ 24 by omega)]
        refine g_aload_n C dX4_append_7 1 rfl rfl ?_
        refine g_get C 0 rfl rfl 0 (by decide) (fun _ h => (List.mem_cons_of_mem _ (List.mem_append_right _ h))) 1 rfl rfl rfl dX4_append_8 ?_
        refine g_sipush C dX4_append_11 (v := (nI 300)) (by decide) ?_
        refine g_icmp_geN C dX4_append_14 (tgt := 49) (by decide) (by omega) (by omega) (fun h14 => ?_) (fun h14 => ?_)
        · skip
          exact absurd h14 (by omega)
        · skip
          refine g_aload_n C dX4_append_17 1 rfl rfl ?_
          refine g_get C 0 rfl rfl 2 (by decide) (fun _ h => (List.mem_cons_of_mem _ (List.mem_append_right _ h))) 2 rfl rfl rfl dX4_append_18 ?_
          refine g_aload_n C dX4_append_21 1 rfl rfl ?_
          refine g_get C 0 rfl rfl 0 (by decide) (fun _ h => (List.mem_cons_of_mem _ (List.mem_append_right _ h))) 1 rfl rfl rfl dX4_append_22 ?_
          refine g_iload_n C dX4_append_25 2 rfl rfl ?_
          refine g_iload_n C dX4_append_26 0 rfl rfl ?_
          refine g_iushr C dX4_append_27 (v := (i_ushr xv (nI (24 - 8 * k)))) rfl ?_
          refine g_sipush C dX4_append_28 (v := (nI 255)) (by decide) ?_
          refine g_iand C dX4_append_31 (v := (nI (byN xv (24 - 8 * k)))) (by_u xv (by omega)) ?_
          refine g_iast C 1 rfl (by omega) (by omega) (f' := zN (va_up tb2 (tl + k) (byN xv (24 - 8 * k)))) (zN_upd _ _ _) (ws' := [(t0, .inr (3, [.int (nI (tl + k)), .long lf, .ref tz, .int pl, .int er])), (tz, .inl (ty.1, 300, .inl (zN (va_up tb2 (tl + k) (byN xv (24 - 8 * k))))))]) rfl dX4_append_32 ?_
          refine g_aload_n C dX4_append_33 1 rfl rfl ?_
          refine g_dup C dX4_append_34 rfl ?_
          refine g_get C 0 rfl rfl 0 (by decide) (fun _ h => (List.mem_cons_of_mem _ (List.mem_append_right _ h))) 1 rfl rfl rfl dX4_append_35 ?_
          refine g_iconst C dX4_append_38 (v := (nI 1)) (by decide) ?_
          refine g_iadd C dX4_append_39 (v := (nI ((tl + k) + 1))) (nI_add _ _) ?_
          refine g_put C 0 rfl rfl 0 (by decide) (fun _ h => (List.mem_cons_of_mem _ (List.mem_append_right _ h))) 1 rfl rfl tyX4 tyX4_ok nmX4 rfl rfl rfl rfl (Nat.le_of_ble_eq_true rfl) (ws' := [(t0, .inr (3, [.int (nI ((tl + k) + 1)), .long lf, .ref tz, .int pl, .int er])), (tz, .inl (ty.1, 300, .inl (zN (va_up tb2 (tl + k) (byN xv (24 - 8 * k))))))]) rfl dX4_append_40 ?_
          refine g_iinc C dX4_append_43 0 rfl (v := (nI 24 - nI (8 * (k + 1)))) (ap_dec (by omega)) (by decide) (lv' := [(2, .int (nI 24 - nI (8 * (k + 1)))), (0, .ref t0), (1, .int xv)]) rfl ?_
          refine g_goto C dX4_append_46 (tgt := 3) (by decide) ?_
          exact ih3 (k + 1) _ (by omega) (by omega) (by rw [← ht]; exact apB_s hk3)
  exact L3 _ 0 tb (Nat.lt_succ_self _) (by omega) rfl

